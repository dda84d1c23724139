theorem in_e_enter_X5 : ∀ w ∈ wsX50, w ∈ wsX5_enter := tl_X5_enter_X5
set_option maxHeartbeats 8000000 in
set_option maxRecDepth 100000 in
theorem e_enter {l : Launch} {D : va_G} {cI cZ cB : ClassId} {sz : Nat} {h a_priests a_barred a_cameOn a_absent a_absentFrom a_absentTo : Nat} {v_size v_rows : Int32} {f_priests f_barred f_cameOn : Nat → Int32} {px b t : Int32} (hv_size0 : 0 ≤ v_size.toInt) (hv_size1 : v_size.toInt ≤ 24) : Met l yX5_enter wsX5_enter ({ frames := 0, cells := 0, slots := 0, locals := 0 }) (RW D cI cZ cB [.ref h, .int px, .int b, .int t] sz [(h, .inr (5, [.ref a_priests, .ref a_barred, .ref a_cameOn, .ref a_absent, .ref a_absentFrom, .ref a_absentTo, .int v_size, .int v_rows])), (a_priests, .inl (cZ, 24, .inl f_priests)), (a_barred, .inl (cI, 24, .inl f_barred)), (a_cameOn, .inl (cI, 24, .inl f_cameOn))]) (va_Qi (fun (r : Int32) (u : Int32 × (Nat → Int32) × (Nat → Int32) × (Nat → Int32)) => ((v_size.toInt < 24) ∧ r.toInt = v_size.toInt ∧ u.1 = v_size + 1 ∧ u.2.1 = upd f_priests v_size.toNatClampNeg (vp_nar .boolean px) ∧ u.2.2.1 = upd f_barred v_size.toNatClampNeg b ∧ u.2.2.2 = upd f_cameOn v_size.toNatClampNeg t) ∨ (¬ (v_size.toInt < 24) ∧ r.toInt = -1 ∧ u.1 = v_size ∧ u.2.1 = f_priests ∧ u.2.2.1 = f_barred ∧ u.2.2.2 = f_cameOn)) (BW D [(h, .inr (5, [.ref a_priests, .ref a_barred, .ref a_cameOn, .ref a_absent, .ref a_absentFrom, .ref a_absentTo, .int v_size, .int v_rows])), (a_priests, .inl (cZ, 24, .inl f_priests)), (a_barred, .inl (cI, 24, .inl f_barred)), (a_cameOn, .inl (cI, 24, .inl f_cameOn))] sz (fun u : Int32 × (Nat → Int32) × (Nat → Int32) × (Nat → Int32) => [(h, .inr (5, [.ref a_priests, .ref a_barred, .ref a_cameOn, .ref a_absent, .ref a_absentFrom, .ref a_absentTo, .int u.1, .int v_rows])), (a_priests, .inl (cZ, 24, .inl u.2.1)), (a_barred, .inl (cI, 24, .inl u.2.2.1)), (a_cameOn, .inl (cI, 24, .inl u.2.2.2))])) (va_A [(h, .inr (5, [.ref a_priests, .ref a_barred, .ref a_cameOn, .ref a_absent, .ref a_absentFrom, .ref a_absentTo, .int v_size, .int v_rows])), (a_priests, .inl (cZ, 24, .inl f_priests)), (a_barred, .inl (cI, 24, .inl f_barred)), (a_cameOn, .inl (cI, 24, .inl f_cameOn))] sz)) 0 (0) (va_A [(h, .inr (5, [.ref a_priests, .ref a_barred, .ref a_cameOn, .ref a_absent, .ref a_absentFrom, .ref a_absentTo, .int v_size, .int v_rows])), (a_priests, .inl (cZ, 24, .inl f_priests)), (a_barred, .inl (cI, 24, .inl f_barred)), (a_cameOn, .inl (cI, 24, .inl f_cameOn))] sz) := by
  refine rw_ret (cc := cX5_enter) (maxL := 4) (ty := .int) (own := RX5) (by decide) rfl rfl (Nat.le_of_ble_eq_true rfl) ?_
  intro p e s m args below meth c Q A S hin hret hP hK hD hA hS ls hl
  obtain ⟨hx, hb, hml, hown, hts⟩ := id S
  have hl : lv_has ls 4 [(0, .ref h), (1, .int px), (2, .int b), (3, .int t)] := hl
  have kkm1 : (-1 : Int32).toInt = -1 := by decide
  have kk0 : (0 : Int32).toInt = 0 := by decide
  have kk1 : (1 : Int32).toInt = 1 := by decide
  have kk24 : (24 : Int32).toInt = 24 := by decide
  have lk0 := hts (.fieldLink RX5 31 "AbbeyHours$Monks" "size" "I") (List.mem_cons_of_mem _ (List.mem_append_left _ (List.mem_of_getElem? (i := 0) rfl)))
  have lk1 := hts (.fieldLink RX5 11 "AbbeyHours$Monks" "priests" "[Z") (List.mem_cons_of_mem _ (List.mem_append_left _ (List.mem_of_getElem? (i := 1) rfl)))
  have lk2 := hts (.fieldLink RX5 15 "AbbeyHours$Monks" "barred" "[I") (List.mem_cons_of_mem _ (List.mem_append_left _ (List.mem_of_getElem? (i := 2) rfl)))
  have lk3 := hts (.fieldLink RX5 19 "AbbeyHours$Monks" "cameOn" "[I") (List.mem_cons_of_mem _ (List.mem_append_left _ (List.mem_of_getElem? (i := 3) rfl)))
  refine lv_aload_n hx hb dX5_enter_0 rfl (lv_at hl 0 rfl) ?_
  refine va_get (D := D) (ci := 5) (v := .int v_size) (C := RX5) (T := TX5) (N := 8) hx hb hts in_e_enter_X5 hown hK.1 hP 0 rfl rfl 6 (by decide) lk0 (fun _ h9 => h9) rfl dX5_enter_1 ?_
  refine lv_bipush (v := 24) hx hb dX5_enter_4 (by decide) ?_
  refine lv_icmp_lt (tgt := 11) hx hb dX5_enter_6 (by decide) (fun c_1 => ?_) (fun c_1 => ?_)
  · have tc_1 := t_lt c_1
    refine lv_aload_n hx hb dX5_enter_11 rfl (lv_at hl 0 rfl) ?_
    refine va_get (D := D) (ci := 5) (v := .ref a_priests) (C := RX5) (T := TX5) (N := 8) hx hb hts in_e_enter_X5 hown hK.1 hP 0 rfl rfl 0 (by decide) lk1 (fun _ h9 => h9) rfl dX5_enter_12 ?_
    refine lv_aload_n hx hb dX5_enter_15 rfl (lv_at hl 0 rfl) ?_
    refine va_get (D := D) (ci := 5) (v := .int v_size) (C := RX5) (T := TX5) (N := 8) hx hb hts in_e_enter_X5 hown hK.1 hP 0 rfl rfl 6 (by decide) lk0 (fun _ h9 => h9) rfl dX5_enter_16 ?_
    refine lv_iload_n hx hb dX5_enter_19 rfl (lv_at hl 1 rfl) ?_
    refine va_zast hx hb hK.1 hP hD hS 1 1 rfl rfl (t_in (by omega) (by omega)) dX5_enter_20 (fun H locs hP hD hS => ?_)
    obtain ⟨ga_, ega_⟩ : ∃ z : Nat → Int32, z = upd f_priests ((v_size : Int32).toNatClampNeg) (vp_nar .boolean px) := ⟨_, rfl⟩
    rw [← ega_] at hP hD
    have hP : va_P D vwCl [(h, .inr (5, [.ref a_priests, .ref a_barred, .ref a_cameOn, .ref a_absent, .ref a_absentFrom, .ref a_absentTo, .int v_size, .int v_rows])), (a_priests, .inl (cZ, 24, .inl ga_)), (a_barred, .inl (cI, 24, .inl f_barred)), (a_cameOn, .inl (cI, 24, .inl f_cameOn))] H := hP
    have hD : va_D A [(h, .inr (5, [.ref a_priests, .ref a_barred, .ref a_cameOn, .ref a_absent, .ref a_absentFrom, .ref a_absentTo, .int v_size, .int v_rows])), (a_priests, .inl (cZ, 24, .inl ga_)), (a_barred, .inl (cI, 24, .inl f_barred)), (a_cameOn, .inl (cI, 24, .inl f_cameOn))] := hD
    refine lv_aload_n hx hb dX5_enter_21 rfl (lv_at hl 0 rfl) ?_
    refine va_get (D := D) (ci := 5) (v := .ref a_barred) (C := RX5) (T := TX5) (N := 8) hx hb hts in_e_enter_X5 hown hK.1 hP 0 rfl rfl 1 (by decide) lk2 (fun _ h9 => h9) rfl dX5_enter_22 ?_
    refine lv_aload_n hx hb dX5_enter_25 rfl (lv_at hl 0 rfl) ?_
    refine va_get (D := D) (ci := 5) (v := .int v_size) (C := RX5) (T := TX5) (N := 8) hx hb hts in_e_enter_X5 hown hK.1 hP 0 rfl rfl 6 (by decide) lk0 (fun _ h9 => h9) rfl dX5_enter_26 ?_
    refine lv_iload_n hx hb dX5_enter_29 rfl (lv_at hl 2 rfl) ?_
    refine va_iast hx hb hK.1 hP hD hS 2 0 rfl rfl (t_in (by omega) (by omega)) dX5_enter_30 (fun H locs hP hD hS => ?_)
    obtain ⟨gb_, egb_⟩ : ∃ z : Nat → Int32, z = upd f_barred ((v_size : Int32).toNatClampNeg) b := ⟨_, rfl⟩
    rw [← egb_] at hP hD
    have hP : va_P D vwCl [(h, .inr (5, [.ref a_priests, .ref a_barred, .ref a_cameOn, .ref a_absent, .ref a_absentFrom, .ref a_absentTo, .int v_size, .int v_rows])), (a_priests, .inl (cZ, 24, .inl ga_)), (a_barred, .inl (cI, 24, .inl gb_)), (a_cameOn, .inl (cI, 24, .inl f_cameOn))] H := hP
    have hD : va_D A [(h, .inr (5, [.ref a_priests, .ref a_barred, .ref a_cameOn, .ref a_absent, .ref a_absentFrom, .ref a_absentTo, .int v_size, .int v_rows])), (a_priests, .inl (cZ, 24, .inl ga_)), (a_barred, .inl (cI, 24, .inl gb_)), (a_cameOn, .inl (cI, 24, .inl f_cameOn))] := hD
    refine lv_aload_n hx hb dX5_enter_31 rfl (lv_at hl 0 rfl) ?_
    refine va_get (D := D) (ci := 5) (v := .ref a_cameOn) (C := RX5) (T := TX5) (N := 8) hx hb hts in_e_enter_X5 hown hK.1 hP 0 rfl rfl 2 (by decide) lk3 (fun _ h9 => h9) rfl dX5_enter_32 ?_
    refine lv_aload_n hx hb dX5_enter_35 rfl (lv_at hl 0 rfl) ?_
    refine va_get (D := D) (ci := 5) (v := .int v_size) (C := RX5) (T := TX5) (N := 8) hx hb hts in_e_enter_X5 hown hK.1 hP 0 rfl rfl 6 (by decide) lk0 (fun _ h9 => h9) rfl dX5_enter_36 ?_
    refine lv_iload_n hx hb dX5_enter_39 rfl (lv_at hl 3 rfl) ?_
    refine va_iast hx hb hK.1 hP hD hS 3 0 rfl rfl (t_in (by omega) (by omega)) dX5_enter_40 (fun H locs hP hD hS => ?_)
    obtain ⟨gc_, egc_⟩ : ∃ z : Nat → Int32, z = upd f_cameOn ((v_size : Int32).toNatClampNeg) t := ⟨_, rfl⟩
    rw [← egc_] at hP hD
    have hP : va_P D vwCl [(h, .inr (5, [.ref a_priests, .ref a_barred, .ref a_cameOn, .ref a_absent, .ref a_absentFrom, .ref a_absentTo, .int v_size, .int v_rows])), (a_priests, .inl (cZ, 24, .inl ga_)), (a_barred, .inl (cI, 24, .inl gb_)), (a_cameOn, .inl (cI, 24, .inl gc_))] H := hP
    have hD : va_D A [(h, .inr (5, [.ref a_priests, .ref a_barred, .ref a_cameOn, .ref a_absent, .ref a_absentFrom, .ref a_absentTo, .int v_size, .int v_rows])), (a_priests, .inl (cZ, 24, .inl ga_)), (a_barred, .inl (cI, 24, .inl gb_)), (a_cameOn, .inl (cI, 24, .inl gc_))] := hD
    refine lv_aload_n hx hb dX5_enter_41 rfl (lv_at hl 0 rfl) ?_
    refine lv_dup hx hb dX5_enter_42 rfl ?_
    refine va_get (D := D) (ci := 5) (v := .int v_size) (C := RX5) (T := TX5) (N := 8) hx hb hts in_e_enter_X5 hown hK.1 hP 0 rfl rfl 6 (by decide) lk0 (fun _ h9 => h9) rfl dX5_enter_43 ?_
    refine lv_iconst (v := 1) hx hb dX5_enter_46 (by decide) ?_
    refine lv_iadd hx hb dX5_enter_47 ?_
    refine lv_topi (fun nn enn => ?_)
    first | have tnn := t_add enn (by omega) (by omega) | skip
    refine va_put (D := D) (ci := 5) (v := .int nn) (ty := .int) (C := RX5) (T := TX5) (N := 8) hx hb hts in_e_enter_X5 tyX5 tyX5_ok nmX5 hown hK.1 hP hD hS 0 rfl rfl 6 (by decide) lk0 (fun _ h9 => h9) rfl (by decide +kernel) rfl rfl (Nat.le_of_ble_eq_true rfl) dX5_enter_48 (fun H locs hP hD hS => ?_)
    have hP : va_P D vwCl [(h, .inr (5, [.ref a_priests, .ref a_barred, .ref a_cameOn, .ref a_absent, .ref a_absentFrom, .ref a_absentTo, .int nn, .int v_rows])), (a_priests, .inl (cZ, 24, .inl ga_)), (a_barred, .inl (cI, 24, .inl gb_)), (a_cameOn, .inl (cI, 24, .inl gc_))] H := hP
    have hD : va_D A [(h, .inr (5, [.ref a_priests, .ref a_barred, .ref a_cameOn, .ref a_absent, .ref a_absentFrom, .ref a_absentTo, .int nn, .int v_rows])), (a_priests, .inl (cZ, 24, .inl ga_)), (a_barred, .inl (cI, 24, .inl gb_)), (a_cameOn, .inl (cI, 24, .inl gc_))] := hD
    refine lv_aload_n hx hb dX5_enter_51 rfl (lv_at hl 0 rfl) ?_
    refine va_get (D := D) (ci := 5) (v := .int nn) (C := RX5) (T := TX5) (N := 8) hx hb hts in_e_enter_X5 hown hK.1 hP 0 rfl rfl 6 (by decide) lk0 (fun _ h9 => h9) rfl dX5_enter_52 ?_
    refine lv_iconst (v := 1) hx hb dX5_enter_55 (by decide) ?_
    refine lv_isub hx hb dX5_enter_56 ?_
    refine lv_topi (fun x_6 ex_6 => ?_)
    first | have tx_6 := t_sub ex_6 (by omega) (by omega) | skip
    exact hret x_6 (nn, ga_, gb_, gc_) _ _ _ _ (show ((v_size.toInt < 24) ∧ x_6.toInt = v_size.toInt ∧ nn = v_size + 1 ∧ ga_ = upd f_priests v_size.toNatClampNeg (vp_nar .boolean px) ∧ gb_ = upd f_barred v_size.toNatClampNeg b ∧ gc_ = upd f_cameOn v_size.toNatClampNeg t) ∨ (¬ (v_size.toInt < 24) ∧ x_6.toInt = -1 ∧ nn = v_size ∧ ga_ = f_priests ∧ gb_ = f_barred ∧ gc_ = f_cameOn) from by first | exact Or.inl ⟨by omega, by omega, enn, ega_, egb_, egc_⟩ | exact Or.inr ⟨by omega, by omega, rfl, rfl, rfl, rfl⟩) rfl (hP.sub [0, 1, 2, 3] rfl) (hD.sub [0, 1, 2, 3] (by decide +kernel) rfl) hS dX5_enter_57
  · have tc_1 := t_nlt c_1
    refine lv_iconst (v := (-1)) hx hb dX5_enter_9 (by decide) ?_
    exact hret (-1) (v_size, f_priests, f_barred, f_cameOn) _ _ _ _ (show ((v_size.toInt < 24) ∧ (-1 : Int32).toInt = v_size.toInt ∧ v_size = v_size + 1 ∧ f_priests = upd f_priests v_size.toNatClampNeg (vp_nar .boolean px) ∧ f_barred = upd f_barred v_size.toNatClampNeg b ∧ f_cameOn = upd f_cameOn v_size.toNatClampNeg t) ∨ (¬ (v_size.toInt < 24) ∧ (-1 : Int32).toInt = -1 ∧ v_size = v_size ∧ f_priests = f_priests ∧ f_barred = f_barred ∧ f_cameOn = f_cameOn) from by first | exact Or.inl ⟨by omega, by omega, enn, ega_, egb_, egc_⟩ | exact Or.inr ⟨by omega, by omega, rfl, rfl, rfl, rfl⟩) rfl (hP.sub [0, 1, 2, 3] rfl) (hD.sub [0, 1, 2, 3] (by decide +kernel) rfl) hS dX5_enter_10

theorem in_E_monk_X11 : ∀ w ∈ wsX110, w ∈ wsX11_monk := tl_X11_monk_X11
set_option maxHeartbeats 8000000 in
set_option maxRecDepth 100000 in
theorem E_monk {l : Launch} {D : va_G} {cI cZ cB : ClassId} {sz : Nat} {h a_bells a_feasts a_tape a_reader a_rules a_monks a_duties a_gifts a_figures ma_priests ma_barred ma_cameOn ma_absent ma_absentFrom ma_absentTo : Nat} {v_today v_stock v_guestHeads v_guestRanks v_faultPlace v_candlesInAll mv_size mv_rows : Int32} {mf_priests mf_barred mf_cameOn : Nat → Int32} {px b : Int32} (hmv_size0 : 0 ≤ mv_size.toInt) (hmv_size1 : mv_size.toInt ≤ 24) : Met l yX11_monk wsX11_monk ({ frames := 1, cells := 0, slots := 0, locals := 23 }) (RW D cI cZ cB [.ref h, .int px, .int b] sz [(h, .inr (10, [.ref a_bells, .ref a_feasts, .ref a_tape, .ref a_reader, .ref a_rules, .ref a_monks, .ref a_duties, .ref a_gifts, .ref a_figures, .int v_today, .int v_stock, .int v_guestHeads, .int v_guestRanks, .int v_faultPlace, .int v_candlesInAll])), (a_monks, .inr (5, [.ref ma_priests, .ref ma_barred, .ref ma_cameOn, .ref ma_absent, .ref ma_absentFrom, .ref ma_absentTo, .int mv_size, .int mv_rows])), (ma_priests, .inl (cZ, 24, .inl mf_priests)), (ma_barred, .inl (cI, 24, .inl mf_barred)), (ma_cameOn, .inl (cI, 24, .inl mf_cameOn))]) (va_Qi (fun (r : Int32) (u : Int32 × (Nat → Int32) × (Nat → Int32) × (Nat → Int32)) => (((0 ≤ b.toInt ∧ b.toInt ≤ 15) ∧ mv_size.toInt < 24) ∧ r.toInt = mv_size.toInt ∧ u.1 = mv_size + 1 ∧ u.2.1 = upd mf_priests mv_size.toNatClampNeg (vp_nar .boolean px) ∧ u.2.2.1 = upd mf_barred mv_size.toNatClampNeg b ∧ u.2.2.2 = upd mf_cameOn mv_size.toNatClampNeg v_today) ∨ (¬ ((0 ≤ b.toInt ∧ b.toInt ≤ 15) ∧ mv_size.toInt < 24) ∧ r.toInt = -1 ∧ u.1 = mv_size ∧ u.2.1 = mf_priests ∧ u.2.2.1 = mf_barred ∧ u.2.2.2 = mf_cameOn)) (BW D [(h, .inr (10, [.ref a_bells, .ref a_feasts, .ref a_tape, .ref a_reader, .ref a_rules, .ref a_monks, .ref a_duties, .ref a_gifts, .ref a_figures, .int v_today, .int v_stock, .int v_guestHeads, .int v_guestRanks, .int v_faultPlace, .int v_candlesInAll])), (a_monks, .inr (5, [.ref ma_priests, .ref ma_barred, .ref ma_cameOn, .ref ma_absent, .ref ma_absentFrom, .ref ma_absentTo, .int mv_size, .int mv_rows])), (ma_priests, .inl (cZ, 24, .inl mf_priests)), (ma_barred, .inl (cI, 24, .inl mf_barred)), (ma_cameOn, .inl (cI, 24, .inl mf_cameOn))] sz (fun u : Int32 × (Nat → Int32) × (Nat → Int32) × (Nat → Int32) => [(h, .inr (10, [.ref a_bells, .ref a_feasts, .ref a_tape, .ref a_reader, .ref a_rules, .ref a_monks, .ref a_duties, .ref a_gifts, .ref a_figures, .int v_today, .int v_stock, .int v_guestHeads, .int v_guestRanks, .int v_faultPlace, .int v_candlesInAll])), (a_monks, .inr (5, [.ref ma_priests, .ref ma_barred, .ref ma_cameOn, .ref ma_absent, .ref ma_absentFrom, .ref ma_absentTo, .int u.1, .int mv_rows])), (ma_priests, .inl (cZ, 24, .inl u.2.1)), (ma_barred, .inl (cI, 24, .inl u.2.2.1)), (ma_cameOn, .inl (cI, 24, .inl u.2.2.2))])) (va_A [(h, .inr (10, [.ref a_bells, .ref a_feasts, .ref a_tape, .ref a_reader, .ref a_rules, .ref a_monks, .ref a_duties, .ref a_gifts, .ref a_figures, .int v_today, .int v_stock, .int v_guestHeads, .int v_guestRanks, .int v_faultPlace, .int v_candlesInAll])), (a_monks, .inr (5, [.ref ma_priests, .ref ma_barred, .ref ma_cameOn, .ref ma_absent, .ref ma_absentFrom, .ref ma_absentTo, .int mv_size, .int mv_rows])), (ma_priests, .inl (cZ, 24, .inl mf_priests)), (ma_barred, .inl (cI, 24, .inl mf_barred)), (ma_cameOn, .inl (cI, 24, .inl mf_cameOn))] sz)) 0 (0) (va_A [(h, .inr (10, [.ref a_bells, .ref a_feasts, .ref a_tape, .ref a_reader, .ref a_rules, .ref a_monks, .ref a_duties, .ref a_gifts, .ref a_figures, .int v_today, .int v_stock, .int v_guestHeads, .int v_guestRanks, .int v_faultPlace, .int v_candlesInAll])), (a_monks, .inr (5, [.ref ma_priests, .ref ma_barred, .ref ma_cameOn, .ref ma_absent, .ref ma_absentFrom, .ref ma_absentTo, .int mv_size, .int mv_rows])), (ma_priests, .inl (cZ, 24, .inl mf_priests)), (ma_barred, .inl (cI, 24, .inl mf_barred)), (ma_cameOn, .inl (cI, 24, .inl mf_cameOn))] sz) := by
  refine rw_ret (cc := cX11_monk) (maxL := 3) (ty := .int) (own := RX11) (by decide) rfl rfl (Nat.le_of_ble_eq_true rfl) ?_
  intro p e s m args below meth c Q A S hin hret hP hK hD hA hS ls hl
  obtain ⟨hx, hb, hml, hown, hts⟩ := id S
  have hl : lv_has ls 3 [(0, .ref h), (1, .int px), (2, .int b)] := hl
  have kkm1 : (-1 : Int32).toInt = -1 := by decide
  have kk0 : (0 : Int32).toInt = 0 := by decide
  have kk15 : (15 : Int32).toInt = 15 := by decide
  have lk0 := hts (.fieldLink RX11 47 "AbbeyHours" "monks" "LAbbeyHours$Monks;") (List.mem_cons_of_mem _ (List.mem_append_left _ (List.mem_append_left _ (List.mem_of_getElem? (i := 0) rfl))))
  have lk1 := hts (.fieldLink RX11 82 "AbbeyHours" "today" "I") (List.mem_cons_of_mem _ (List.mem_append_left _ (List.mem_append_left _ (List.mem_of_getElem? (i := 1) rfl))))
  refine lv_iload_n hx hb dX11_monk_0 rfl (lv_at hl 2 rfl) ?_
  refine lv_iconst (v := 0) hx hb dX11_monk_1 (by decide) ?_
  refine lv_bipush (v := 15) hx hb dX11_monk_2 (by decide) ?_
  have hPc := hP.sub (ws' := []) [] rfl
  refine roS (As := [.int b, .int 0, .int 15]) (rest := []) S (w_within  ) (va_cwS 3 hts gX11_monk_X11_within rfl rfl rfl hd_X11_within ⟨Nat.le_of_ble_eq_true rfl, Nat.le_of_ble_eq_true rfl⟩) hK hPc rfl hl.1 rfl (Nat.le_of_ble_eq_true rfl) dX11_monk_4 ⟨Nat.le_of_ble_eq_true rfl, Nat.le_of_ble_eq_true rfl⟩ (fun r_1 hw_1 => ?_)
  have hw_1 : (r_1.toInt = 1 ∧ (0 : Int32).toInt ≤ b.toInt ∧ b.toInt ≤ (15 : Int32).toInt) ∨ (r_1.toInt = 0 ∧ (b.toInt < (0 : Int32).toInt ∨ (15 : Int32).toInt < b.toInt)) := hw_1
  refine lv_if_eq (tgt := 26) hx hb dX11_monk_7 (by decide) (fun c_2 => ?_) (fun c_2 => ?_)
  · have tc_2 := t_eq c_2
    refine lv_iconst (v := (-1)) hx hb dX11_monk_26 (by decide) ?_
    exact hret (-1) (mv_size, mf_priests, mf_barred, mf_cameOn) _ _ _ _ (show (((0 ≤ b.toInt ∧ b.toInt ≤ 15) ∧ mv_size.toInt < 24) ∧ (-1 : Int32).toInt = mv_size.toInt ∧ mv_size = mv_size + 1 ∧ mf_priests = upd mf_priests mv_size.toNatClampNeg (vp_nar .boolean px) ∧ mf_barred = upd mf_barred mv_size.toNatClampNeg b ∧ mf_cameOn = upd mf_cameOn mv_size.toNatClampNeg v_today) ∨ (¬ ((0 ≤ b.toInt ∧ b.toInt ≤ 15) ∧ mv_size.toInt < 24) ∧ (-1 : Int32).toInt = -1 ∧ mv_size = mv_size ∧ mf_priests = mf_priests ∧ mf_barred = mf_barred ∧ mf_cameOn = mf_cameOn) from by first | (rcases hw_en with ⟨z1, z2⟩ | ⟨z1, z2⟩; exact Or.inl ⟨by omega, z2⟩; exact Or.inr ⟨by omega, z2⟩) | exact Or.inr ⟨by omega, by omega, rfl, rfl, rfl, rfl⟩) rfl (hP.sub [0, 1, 2, 3, 4] rfl) (hD.sub [0, 1, 2, 3, 4] (by decide +kernel) rfl) hS dX11_monk_27
  · have tc_2 := t_neq c_2
    refine lv_aload_n hx hb dX11_monk_10 rfl (lv_at hl 0 rfl) ?_
    refine va_get (D := D) (ci := 10) (v := .ref a_monks) (C := RX11) (T := TX11) (N := 15) hx hb hts in_E_monk_X11 hown hK.1 hP 0 rfl rfl 5 (by decide) lk0 (fun _ h9 => h9) rfl dX11_monk_11 ?_
    refine lv_iload_n hx hb dX11_monk_14 rfl (lv_at hl 1 rfl) ?_
    refine lv_iload_n hx hb dX11_monk_15 rfl (lv_at hl 2 rfl) ?_
    refine lv_aload_n hx hb dX11_monk_16 rfl (lv_at hl 0 rfl) ?_
    refine va_get (D := D) (ci := 10) (v := .int v_today) (C := RX11) (T := TX11) (N := 15) hx hb hts in_E_monk_X11 hown hK.1 hP 0 rfl rfl 9 (by decide) lk1 (fun _ h9 => h9) rfl dX11_monk_17 ?_
    have hPc := hP.sub (ws' := [(a_monks, .inr (5, [.ref ma_priests, .ref ma_barred, .ref ma_cameOn, .ref ma_absent, .ref ma_absentFrom, .ref ma_absentTo, .int mv_size, .int mv_rows])), (ma_priests, .inl (cZ, 24, .inl mf_priests)), (ma_barred, .inl (cI, 24, .inl mf_barred)), (ma_cameOn, .inl (cI, 24, .inl mf_cameOn))]) [1, 2, 3, 4] rfl
    refine rwV (As := [.int px, .int b, .int v_today]) (rest := []) (wc := [(a_monks, .inr (5, [.ref ma_priests, .ref ma_barred, .ref ma_cameOn, .ref ma_absent, .ref ma_absentFrom, .ref ma_absentTo, .int mv_size, .int mv_rows])), (ma_priests, .inl (cZ, 24, .inl mf_priests)), (ma_barred, .inl (cI, 24, .inl mf_barred)), (ma_cameOn, .inl (cI, 24, .inl mf_cameOn))]) (wr := [(h, .inr (10, [.ref a_bells, .ref a_feasts, .ref a_tape, .ref a_reader, .ref a_rules, .ref a_monks, .ref a_duties, .ref a_gifts, .ref a_figures, .int v_today, .int v_stock, .int v_guestHeads, .int v_guestRanks, .int v_faultPlace, .int v_candlesInAll]))]) S (e_enter  (by omega) (by omega)) (cwV 3 hts gX11_monk_X5_enter rfl rfl rfl ⟨rfl, hd_X5_enter⟩ ⟨Nat.le_of_ble_eq_true rfl, Nat.le_of_ble_eq_true rfl⟩) hK hP hD hS hA [1, 2, 3, 4] [0] rfl rfl (by decide +kernel) (by decide +kernel) (by decide +kernel) (va_recv hK.1 hPc (ci := 5) (q0 := 0) rfl rfl) rfl hl.1 rfl (Nat.le_of_ble_eq_true rfl) dX11_monk_20 ⟨Nat.le_of_ble_eq_true rfl, Nat.le_of_ble_eq_true rfl⟩ (fun r_en u_en H locs hw_en hP hD hS => ?_)
    obtain ⟨n1_en, f1_en, f2_en, f3_en⟩ := u_en
    have hw_en : ((mv_size.toInt < 24) ∧ r_en.toInt = mv_size.toInt ∧ n1_en = mv_size + 1 ∧ f1_en = upd mf_priests mv_size.toNatClampNeg (vp_nar .boolean px) ∧ f2_en = upd mf_barred mv_size.toNatClampNeg b ∧ f3_en = upd mf_cameOn mv_size.toNatClampNeg v_today) ∨ (¬ (mv_size.toInt < 24) ∧ r_en.toInt = -1 ∧ n1_en = mv_size ∧ f1_en = mf_priests ∧ f2_en = mf_barred ∧ f3_en = mf_cameOn) := hw_en
    have hP : va_P D vwCl [(h, .inr (10, [.ref a_bells, .ref a_feasts, .ref a_tape, .ref a_reader, .ref a_rules, .ref a_monks, .ref a_duties, .ref a_gifts, .ref a_figures, .int v_today, .int v_stock, .int v_guestHeads, .int v_guestRanks, .int v_faultPlace, .int v_candlesInAll])), (a_monks, .inr (5, [.ref ma_priests, .ref ma_barred, .ref ma_cameOn, .ref ma_absent, .ref ma_absentFrom, .ref ma_absentTo, .int n1_en, .int mv_rows])), (ma_priests, .inl (cZ, 24, .inl f1_en)), (ma_barred, .inl (cI, 24, .inl f2_en)), (ma_cameOn, .inl (cI, 24, .inl f3_en))] H := hP
    have hD : va_D A [(h, .inr (10, [.ref a_bells, .ref a_feasts, .ref a_tape, .ref a_reader, .ref a_rules, .ref a_monks, .ref a_duties, .ref a_gifts, .ref a_figures, .int v_today, .int v_stock, .int v_guestHeads, .int v_guestRanks, .int v_faultPlace, .int v_candlesInAll])), (a_monks, .inr (5, [.ref ma_priests, .ref ma_barred, .ref ma_cameOn, .ref ma_absent, .ref ma_absentFrom, .ref ma_absentTo, .int n1_en, .int mv_rows])), (ma_priests, .inl (cZ, 24, .inl f1_en)), (ma_barred, .inl (cI, 24, .inl f2_en)), (ma_cameOn, .inl (cI, 24, .inl f3_en))] := hD
    refine lv_goto (tgt := 27) hx hb dX11_monk_23 (by decide) ?_
    exact hret r_en (n1_en, f1_en, f2_en, f3_en) _ _ _ _ (show (((0 ≤ b.toInt ∧ b.toInt ≤ 15) ∧ mv_size.toInt < 24) ∧ r_en.toInt = mv_size.toInt ∧ n1_en = mv_size + 1 ∧ f1_en = upd mf_priests mv_size.toNatClampNeg (vp_nar .boolean px) ∧ f2_en = upd mf_barred mv_size.toNatClampNeg b ∧ f3_en = upd mf_cameOn mv_size.toNatClampNeg v_today) ∨ (¬ ((0 ≤ b.toInt ∧ b.toInt ≤ 15) ∧ mv_size.toInt < 24) ∧ r_en.toInt = -1 ∧ n1_en = mv_size ∧ f1_en = mf_priests ∧ f2_en = mf_barred ∧ f3_en = mf_cameOn) from by first | (rcases hw_en with ⟨z1, z2⟩ | ⟨z1, z2⟩; exact Or.inl ⟨by omega, z2⟩; exact Or.inr ⟨by omega, z2⟩) | exact Or.inr ⟨by omega, by omega, rfl, rfl, rfl, rfl⟩) rfl (hP.sub [0, 1, 2, 3, 4] rfl) (hD.sub [0, 1, 2, 3, 4] (by decide +kernel) rfl) hS dX11_monk_27

theorem in_M_monk_X12 : ∀ w ∈ wsX120, w ∈ wsX12_monk := tl_X12_monk_X12
set_option maxHeartbeats 8000000 in
set_option maxRecDepth 100000 in
theorem M_monk {l : Launch} {D : va_G} {cI cZ cB : ClassId} {sz : Nat} {h a_isPriest a_bars a_joined a_turns a_awayMonk a_awayFrom a_awayTo a_feastDay a_rank a_isWeekly a_isDouble a_giftDay a_giftFrom a_owed a_said a_spared a_leaveGift a_leaveFrom a_leaveTo a_lateDay a_lateOffice a_lateBy a_guests a_who a_used a_lacks a_candles a_masses a_owing a_heldOn a_waits a_tape a_text a_statements a_taken a_sort a_first a_second : Nat} {v_today v_monks v_aways v_feasts v_gifts v_leaves v_lates v_store v_allCandles v_taped v_size v_at v_fault v_rules v_wordEnd v_number : Int32} {f_isPriest f_bars f_joined : Nat → Int32} {px b : Int32} (h0_monks : 0 ≤ v_monks.toInt) (h1_monks : v_monks.toInt ≤ 24) : Met l yX12_monk wsX12_monk ({ frames := 1, cells := 0, slots := 0, locals := 22 }) (RW D cI cZ cB [.ref h, .int px, .int b] sz [(h, .inr (11, [.int v_today, .int v_monks, .int v_aways, .int v_feasts, .int v_gifts, .int v_leaves, .int v_lates, .int v_store, .int v_allCandles, .ref a_isPriest, .ref a_bars, .ref a_joined, .ref a_turns, .ref a_awayMonk, .ref a_awayFrom, .ref a_awayTo, .ref a_feastDay, .ref a_rank, .ref a_isWeekly, .ref a_isDouble, .ref a_giftDay, .ref a_giftFrom, .ref a_owed, .ref a_said, .ref a_spared, .ref a_leaveGift, .ref a_leaveFrom, .ref a_leaveTo, .ref a_lateDay, .ref a_lateOffice, .ref a_lateBy, .ref a_guests, .ref a_who, .ref a_used, .ref a_lacks, .ref a_candles, .ref a_masses, .ref a_owing, .ref a_heldOn, .ref a_waits, .ref a_tape, .ref a_text, .int v_taped, .int v_size, .int v_at, .int v_fault, .int v_rules, .ref a_statements, .ref a_taken, .ref a_sort, .ref a_first, .ref a_second, .int v_wordEnd, .int v_number])), (a_isPriest, .inl (cZ, 24, .inl f_isPriest)), (a_bars, .inl (cI, 24, .inl f_bars)), (a_joined, .inl (cI, 24, .inl f_joined))]) (va_Qi (fun (r : Int32) (u : Int32 × (Nat → Int32) × (Nat → Int32) × (Nat → Int32)) => (((0 ≤ b.toInt ∧ b.toInt ≤ 15) ∧ v_monks.toInt < 24) ∧ r.toInt = v_monks.toInt ∧ u.1 = v_monks + 1 ∧ u.2.1 = upd f_isPriest v_monks.toNatClampNeg (vp_nar .boolean px) ∧ u.2.2.1 = upd f_bars v_monks.toNatClampNeg b ∧ u.2.2.2 = upd f_joined v_monks.toNatClampNeg v_today) ∨ (¬ ((0 ≤ b.toInt ∧ b.toInt ≤ 15) ∧ v_monks.toInt < 24) ∧ r.toInt = -1 ∧ u.1 = v_monks ∧ u.2.1 = f_isPriest ∧ u.2.2.1 = f_bars ∧ u.2.2.2 = f_joined)) (BW D [(h, .inr (11, [.int v_today, .int v_monks, .int v_aways, .int v_feasts, .int v_gifts, .int v_leaves, .int v_lates, .int v_store, .int v_allCandles, .ref a_isPriest, .ref a_bars, .ref a_joined, .ref a_turns, .ref a_awayMonk, .ref a_awayFrom, .ref a_awayTo, .ref a_feastDay, .ref a_rank, .ref a_isWeekly, .ref a_isDouble, .ref a_giftDay, .ref a_giftFrom, .ref a_owed, .ref a_said, .ref a_spared, .ref a_leaveGift, .ref a_leaveFrom, .ref a_leaveTo, .ref a_lateDay, .ref a_lateOffice, .ref a_lateBy, .ref a_guests, .ref a_who, .ref a_used, .ref a_lacks, .ref a_candles, .ref a_masses, .ref a_owing, .ref a_heldOn, .ref a_waits, .ref a_tape, .ref a_text, .int v_taped, .int v_size, .int v_at, .int v_fault, .int v_rules, .ref a_statements, .ref a_taken, .ref a_sort, .ref a_first, .ref a_second, .int v_wordEnd, .int v_number])), (a_isPriest, .inl (cZ, 24, .inl f_isPriest)), (a_bars, .inl (cI, 24, .inl f_bars)), (a_joined, .inl (cI, 24, .inl f_joined))] sz (fun u : Int32 × (Nat → Int32) × (Nat → Int32) × (Nat → Int32) => [(h, .inr (11, [.int v_today, .int u.1, .int v_aways, .int v_feasts, .int v_gifts, .int v_leaves, .int v_lates, .int v_store, .int v_allCandles, .ref a_isPriest, .ref a_bars, .ref a_joined, .ref a_turns, .ref a_awayMonk, .ref a_awayFrom, .ref a_awayTo, .ref a_feastDay, .ref a_rank, .ref a_isWeekly, .ref a_isDouble, .ref a_giftDay, .ref a_giftFrom, .ref a_owed, .ref a_said, .ref a_spared, .ref a_leaveGift, .ref a_leaveFrom, .ref a_leaveTo, .ref a_lateDay, .ref a_lateOffice, .ref a_lateBy, .ref a_guests, .ref a_who, .ref a_used, .ref a_lacks, .ref a_candles, .ref a_masses, .ref a_owing, .ref a_heldOn, .ref a_waits, .ref a_tape, .ref a_text, .int v_taped, .int v_size, .int v_at, .int v_fault, .int v_rules, .ref a_statements, .ref a_taken, .ref a_sort, .ref a_first, .ref a_second, .int v_wordEnd, .int v_number])), (a_isPriest, .inl (cZ, 24, .inl u.2.1)), (a_bars, .inl (cI, 24, .inl u.2.2.1)), (a_joined, .inl (cI, 24, .inl u.2.2.2))])) (va_A [(h, .inr (11, [.int v_today, .int v_monks, .int v_aways, .int v_feasts, .int v_gifts, .int v_leaves, .int v_lates, .int v_store, .int v_allCandles, .ref a_isPriest, .ref a_bars, .ref a_joined, .ref a_turns, .ref a_awayMonk, .ref a_awayFrom, .ref a_awayTo, .ref a_feastDay, .ref a_rank, .ref a_isWeekly, .ref a_isDouble, .ref a_giftDay, .ref a_giftFrom, .ref a_owed, .ref a_said, .ref a_spared, .ref a_leaveGift, .ref a_leaveFrom, .ref a_leaveTo, .ref a_lateDay, .ref a_lateOffice, .ref a_lateBy, .ref a_guests, .ref a_who, .ref a_used, .ref a_lacks, .ref a_candles, .ref a_masses, .ref a_owing, .ref a_heldOn, .ref a_waits, .ref a_tape, .ref a_text, .int v_taped, .int v_size, .int v_at, .int v_fault, .int v_rules, .ref a_statements, .ref a_taken, .ref a_sort, .ref a_first, .ref a_second, .int v_wordEnd, .int v_number])), (a_isPriest, .inl (cZ, 24, .inl f_isPriest)), (a_bars, .inl (cI, 24, .inl f_bars)), (a_joined, .inl (cI, 24, .inl f_joined))] sz)) 0 (0) (va_A [(h, .inr (11, [.int v_today, .int v_monks, .int v_aways, .int v_feasts, .int v_gifts, .int v_leaves, .int v_lates, .int v_store, .int v_allCandles, .ref a_isPriest, .ref a_bars, .ref a_joined, .ref a_turns, .ref a_awayMonk, .ref a_awayFrom, .ref a_awayTo, .ref a_feastDay, .ref a_rank, .ref a_isWeekly, .ref a_isDouble, .ref a_giftDay, .ref a_giftFrom, .ref a_owed, .ref a_said, .ref a_spared, .ref a_leaveGift, .ref a_leaveFrom, .ref a_leaveTo, .ref a_lateDay, .ref a_lateOffice, .ref a_lateBy, .ref a_guests, .ref a_who, .ref a_used, .ref a_lacks, .ref a_candles, .ref a_masses, .ref a_owing, .ref a_heldOn, .ref a_waits, .ref a_tape, .ref a_text, .int v_taped, .int v_size, .int v_at, .int v_fault, .int v_rules, .ref a_statements, .ref a_taken, .ref a_sort, .ref a_first, .ref a_second, .int v_wordEnd, .int v_number])), (a_isPriest, .inl (cZ, 24, .inl f_isPriest)), (a_bars, .inl (cI, 24, .inl f_bars)), (a_joined, .inl (cI, 24, .inl f_joined))] sz) := by
  refine rw_ret (cc := cX12_monk) (maxL := 3) (ty := .int) (own := RX12) (by decide) rfl rfl (Nat.le_of_ble_eq_true rfl) ?_
  intro p e s m args below meth c Q A S hin hret hP hK hD hA hS ls hl
  obtain ⟨hx, hb, hml, hown, hts⟩ := id S
  have hl : lv_has ls 3 [(0, .ref h), (1, .int px), (2, .int b)] := hl
  have kkm1 : (-1 : Int32).toInt = -1 := by decide
  have kk0 : (0 : Int32).toInt = 0 := by decide
  have kk1 : (1 : Int32).toInt = 1 := by decide
  have kk15 : (15 : Int32).toInt = 15 := by decide
  have kk24 : (24 : Int32).toInt = 24 := by decide
  have lk0 := hts (.fieldLink RX12 134 "AbbeyHoursModel" "monks" "I") (List.mem_cons_of_mem _ (List.mem_append_left _ (List.mem_of_getElem? (i := 0) rfl)))
  have lk1 := hts (.fieldLink RX12 7 "AbbeyHoursModel" "isPriest" "[Z") (List.mem_cons_of_mem _ (List.mem_append_left _ (List.mem_of_getElem? (i := 1) rfl)))
  have lk2 := hts (.fieldLink RX12 13 "AbbeyHoursModel" "bars" "[I") (List.mem_cons_of_mem _ (List.mem_append_left _ (List.mem_of_getElem? (i := 2) rfl)))
  have lk3 := hts (.fieldLink RX12 17 "AbbeyHoursModel" "joined" "[I") (List.mem_cons_of_mem _ (List.mem_append_left _ (List.mem_of_getElem? (i := 3) rfl)))
  have lk4 := hts (.fieldLink RX12 140 "AbbeyHoursModel" "today" "I") (List.mem_cons_of_mem _ (List.mem_append_left _ (List.mem_of_getElem? (i := 4) rfl)))
  refine lv_iload_n hx hb dX12_monk_0 rfl (lv_at hl 2 rfl) ?_
  refine lv_iconst (v := 0) hx hb dX12_monk_1 (by decide) ?_
  refine lv_bipush (v := 15) hx hb dX12_monk_2 (by decide) ?_
  have hPc := hP.sub (ws' := []) [] rfl
  refine roS (As := [.int b, .int 0, .int 15]) (rest := []) S (m_isIn  ) (va_cwS 3 hts gX12_monk_X12_isIn rfl rfl rfl hd_X12_isIn ⟨Nat.le_of_ble_eq_true rfl, Nat.le_of_ble_eq_true rfl⟩) hK hPc rfl hl.1 rfl (Nat.le_of_ble_eq_true rfl) dX12_monk_4 ⟨Nat.le_of_ble_eq_true rfl, Nat.le_of_ble_eq_true rfl⟩ (fun r_1 hw_1 => ?_)
  have hw_1 : (r_1.toInt = 1 ∧ (0 : Int32).toInt ≤ b.toInt ∧ b.toInt ≤ (15 : Int32).toInt) ∨ (r_1.toInt = 0 ∧ (b.toInt < (0 : Int32).toInt ∨ (15 : Int32).toInt < b.toInt)) := hw_1
  refine lv_if_eq (tgt := 19) hx hb dX12_monk_7 (by decide) (fun c_2 => ?_) (fun c_2 => ?_)
  · have tc_2 := t_eq c_2
    refine lv_iconst (v := (-1)) hx hb dX12_monk_19 (by decide) ?_
    exact hret (-1) (v_monks, f_isPriest, f_bars, f_joined) _ _ _ _ (show (((0 ≤ b.toInt ∧ b.toInt ≤ 15) ∧ v_monks.toInt < 24) ∧ (-1 : Int32).toInt = v_monks.toInt ∧ v_monks = v_monks + 1 ∧ f_isPriest = upd f_isPriest v_monks.toNatClampNeg (vp_nar .boolean px) ∧ f_bars = upd f_bars v_monks.toNatClampNeg b ∧ f_joined = upd f_joined v_monks.toNatClampNeg v_today) ∨ (¬ ((0 ≤ b.toInt ∧ b.toInt ≤ 15) ∧ v_monks.toInt < 24) ∧ (-1 : Int32).toInt = -1 ∧ v_monks = v_monks ∧ f_isPriest = f_isPriest ∧ f_bars = f_bars ∧ f_joined = f_joined) from by first | exact Or.inl ⟨by omega, by omega, enn, ega_, egb_, egc_⟩ | exact Or.inr ⟨by omega, by omega, rfl, rfl, rfl, rfl⟩) rfl (hP.sub [0, 1, 2, 3] rfl) (hD.sub [0, 1, 2, 3] (by decide +kernel) rfl) hS dX12_monk_20
  · have tc_2 := t_neq c_2
    refine lv_aload_n hx hb dX12_monk_10 rfl (lv_at hl 0 rfl) ?_
    refine va_get (D := D) (ci := 11) (v := .int v_monks) (C := RX12) (T := TX12) (N := 54) hx hb hts in_M_monk_X12 hown hK.1 hP 0 rfl rfl 1 (by decide) lk0 (fun _ h9 => h9) rfl dX12_monk_11 ?_
    refine lv_bipush (v := 24) hx hb dX12_monk_14 (by decide) ?_
    refine lv_icmp_ne (tgt := 21) hx hb dX12_monk_16 (by decide) (fun c_3 => ?_) (fun c_3 => ?_)
    · have tc_3 := t_neq c_3
      refine lv_aload_n hx hb dX12_monk_21 rfl (lv_at hl 0 rfl) ?_
      refine va_get (D := D) (ci := 11) (v := .ref a_isPriest) (C := RX12) (T := TX12) (N := 54) hx hb hts in_M_monk_X12 hown hK.1 hP 0 rfl rfl 9 (by decide) lk1 (fun _ h9 => h9) rfl dX12_monk_22 ?_
      refine lv_aload_n hx hb dX12_monk_25 rfl (lv_at hl 0 rfl) ?_
      refine va_get (D := D) (ci := 11) (v := .int v_monks) (C := RX12) (T := TX12) (N := 54) hx hb hts in_M_monk_X12 hown hK.1 hP 0 rfl rfl 1 (by decide) lk0 (fun _ h9 => h9) rfl dX12_monk_26 ?_
      refine lv_iload_n hx hb dX12_monk_29 rfl (lv_at hl 1 rfl) ?_
      refine va_zast hx hb hK.1 hP hD hS 1 1 rfl rfl (t_in (by omega) (by omega)) dX12_monk_30 (fun H locs hP hD hS => ?_)
      obtain ⟨ga_, ega_⟩ : ∃ z : Nat → Int32, z = upd f_isPriest ((v_monks : Int32).toNatClampNeg) (vp_nar .boolean px) := ⟨_, rfl⟩
      rw [← ega_] at hP hD
      have hP : va_P D vwCl [(h, .inr (11, [.int v_today, .int v_monks, .int v_aways, .int v_feasts, .int v_gifts, .int v_leaves, .int v_lates, .int v_store, .int v_allCandles, .ref a_isPriest, .ref a_bars, .ref a_joined, .ref a_turns, .ref a_awayMonk, .ref a_awayFrom, .ref a_awayTo, .ref a_feastDay, .ref a_rank, .ref a_isWeekly, .ref a_isDouble, .ref a_giftDay, .ref a_giftFrom, .ref a_owed, .ref a_said, .ref a_spared, .ref a_leaveGift, .ref a_leaveFrom, .ref a_leaveTo, .ref a_lateDay, .ref a_lateOffice, .ref a_lateBy, .ref a_guests, .ref a_who, .ref a_used, .ref a_lacks, .ref a_candles, .ref a_masses, .ref a_owing, .ref a_heldOn, .ref a_waits, .ref a_tape, .ref a_text, .int v_taped, .int v_size, .int v_at, .int v_fault, .int v_rules, .ref a_statements, .ref a_taken, .ref a_sort, .ref a_first, .ref a_second, .int v_wordEnd, .int v_number])), (a_isPriest, .inl (cZ, 24, .inl ga_)), (a_bars, .inl (cI, 24, .inl f_bars)), (a_joined, .inl (cI, 24, .inl f_joined))] H := hP
      have hD : va_D A [(h, .inr (11, [.int v_today, .int v_monks, .int v_aways, .int v_feasts, .int v_gifts, .int v_leaves, .int v_lates, .int v_store, .int v_allCandles, .ref a_isPriest, .ref a_bars, .ref a_joined, .ref a_turns, .ref a_awayMonk, .ref a_awayFrom, .ref a_awayTo, .ref a_feastDay, .ref a_rank, .ref a_isWeekly, .ref a_isDouble, .ref a_giftDay, .ref a_giftFrom, .ref a_owed, .ref a_said, .ref a_spared, .ref a_leaveGift, .ref a_leaveFrom, .ref a_leaveTo, .ref a_lateDay, .ref a_lateOffice, .ref a_lateBy, .ref a_guests, .ref a_who, .ref a_used, .ref a_lacks, .ref a_candles, .ref a_masses, .ref a_owing, .ref a_heldOn, .ref a_waits, .ref a_tape, .ref a_text, .int v_taped, .int v_size, .int v_at, .int v_fault, .int v_rules, .ref a_statements, .ref a_taken, .ref a_sort, .ref a_first, .ref a_second, .int v_wordEnd, .int v_number])), (a_isPriest, .inl (cZ, 24, .inl ga_)), (a_bars, .inl (cI, 24, .inl f_bars)), (a_joined, .inl (cI, 24, .inl f_joined))] := hD
      refine lv_aload_n hx hb dX12_monk_31 rfl (lv_at hl 0 rfl) ?_
      refine va_get (D := D) (ci := 11) (v := .ref a_bars) (C := RX12) (T := TX12) (N := 54) hx hb hts in_M_monk_X12 hown hK.1 hP 0 rfl rfl 10 (by decide) lk2 (fun _ h9 => h9) rfl dX12_monk_32 ?_
      refine lv_aload_n hx hb dX12_monk_35 rfl (lv_at hl 0 rfl) ?_
      refine va_get (D := D) (ci := 11) (v := .int v_monks) (C := RX12) (T := TX12) (N := 54) hx hb hts in_M_monk_X12 hown hK.1 hP 0 rfl rfl 1 (by decide) lk0 (fun _ h9 => h9) rfl dX12_monk_36 ?_
      refine lv_iload_n hx hb dX12_monk_39 rfl (lv_at hl 2 rfl) ?_
      refine va_iast hx hb hK.1 hP hD hS 2 0 rfl rfl (t_in (by omega) (by omega)) dX12_monk_40 (fun H locs hP hD hS => ?_)
      obtain ⟨gb_, egb_⟩ : ∃ z : Nat → Int32, z = upd f_bars ((v_monks : Int32).toNatClampNeg) b := ⟨_, rfl⟩
      rw [← egb_] at hP hD
      have hP : va_P D vwCl [(h, .inr (11, [.int v_today, .int v_monks, .int v_aways, .int v_feasts, .int v_gifts, .int v_leaves, .int v_lates, .int v_store, .int v_allCandles, .ref a_isPriest, .ref a_bars, .ref a_joined, .ref a_turns, .ref a_awayMonk, .ref a_awayFrom, .ref a_awayTo, .ref a_feastDay, .ref a_rank, .ref a_isWeekly, .ref a_isDouble, .ref a_giftDay, .ref a_giftFrom, .ref a_owed, .ref a_said, .ref a_spared, .ref a_leaveGift, .ref a_leaveFrom, .ref a_leaveTo, .ref a_lateDay, .ref a_lateOffice, .ref a_lateBy, .ref a_guests, .ref a_who, .ref a_used, .ref a_lacks, .ref a_candles, .ref a_masses, .ref a_owing, .ref a_heldOn, .ref a_waits, .ref a_tape, .ref a_text, .int v_taped, .int v_size, .int v_at, .int v_fault, .int v_rules, .ref a_statements, .ref a_taken, .ref a_sort, .ref a_first, .ref a_second, .int v_wordEnd, .int v_number])), (a_isPriest, .inl (cZ, 24, .inl ga_)), (a_bars, .inl (cI, 24, .inl gb_)), (a_joined, .inl (cI, 24, .inl f_joined))] H := hP
      have hD : va_D A [(h, .inr (11, [.int v_today, .int v_monks, .int v_aways, .int v_feasts, .int v_gifts, .int v_leaves, .int v_lates, .int v_store, .int v_allCandles, .ref a_isPriest, .ref a_bars, .ref a_joined, .ref a_turns, .ref a_awayMonk, .ref a_awayFrom, .ref a_awayTo, .ref a_feastDay, .ref a_rank, .ref a_isWeekly, .ref a_isDouble, .ref a_giftDay, .ref a_giftFrom, .ref a_owed, .ref a_said, .ref a_spared, .ref a_leaveGift, .ref a_leaveFrom, .ref a_leaveTo, .ref a_lateDay, .ref a_lateOffice, .ref a_lateBy, .ref a_guests, .ref a_who, .ref a_used, .ref a_lacks, .ref a_candles, .ref a_masses, .ref a_owing, .ref a_heldOn, .ref a_waits, .ref a_tape, .ref a_text, .int v_taped, .int v_size, .int v_at, .int v_fault, .int v_rules, .ref a_statements, .ref a_taken, .ref a_sort, .ref a_first, .ref a_second, .int v_wordEnd, .int v_number])), (a_isPriest, .inl (cZ, 24, .inl ga_)), (a_bars, .inl (cI, 24, .inl gb_)), (a_joined, .inl (cI, 24, .inl f_joined))] := hD
      refine lv_aload_n hx hb dX12_monk_41 rfl (lv_at hl 0 rfl) ?_
      refine va_get (D := D) (ci := 11) (v := .ref a_joined) (C := RX12) (T := TX12) (N := 54) hx hb hts in_M_monk_X12 hown hK.1 hP 0 rfl rfl 11 (by decide) lk3 (fun _ h9 => h9) rfl dX12_monk_42 ?_
      refine lv_aload_n hx hb dX12_monk_45 rfl (lv_at hl 0 rfl) ?_
      refine va_get (D := D) (ci := 11) (v := .int v_monks) (C := RX12) (T := TX12) (N := 54) hx hb hts in_M_monk_X12 hown hK.1 hP 0 rfl rfl 1 (by decide) lk0 (fun _ h9 => h9) rfl dX12_monk_46 ?_
      refine lv_aload_n hx hb dX12_monk_49 rfl (lv_at hl 0 rfl) ?_
      refine va_get (D := D) (ci := 11) (v := .int v_today) (C := RX12) (T := TX12) (N := 54) hx hb hts in_M_monk_X12 hown hK.1 hP 0 rfl rfl 0 (by decide) lk4 (fun _ h9 => h9) rfl dX12_monk_50 ?_
      refine va_iast hx hb hK.1 hP hD hS 3 0 rfl rfl (t_in (by omega) (by omega)) dX12_monk_53 (fun H locs hP hD hS => ?_)
      obtain ⟨gc_, egc_⟩ : ∃ z : Nat → Int32, z = upd f_joined ((v_monks : Int32).toNatClampNeg) v_today := ⟨_, rfl⟩
      rw [← egc_] at hP hD
      have hP : va_P D vwCl [(h, .inr (11, [.int v_today, .int v_monks, .int v_aways, .int v_feasts, .int v_gifts, .int v_leaves, .int v_lates, .int v_store, .int v_allCandles, .ref a_isPriest, .ref a_bars, .ref a_joined, .ref a_turns, .ref a_awayMonk, .ref a_awayFrom, .ref a_awayTo, .ref a_feastDay, .ref a_rank, .ref a_isWeekly, .ref a_isDouble, .ref a_giftDay, .ref a_giftFrom, .ref a_owed, .ref a_said, .ref a_spared, .ref a_leaveGift, .ref a_leaveFrom, .ref a_leaveTo, .ref a_lateDay, .ref a_lateOffice, .ref a_lateBy, .ref a_guests, .ref a_who, .ref a_used, .ref a_lacks, .ref a_candles, .ref a_masses, .ref a_owing, .ref a_heldOn, .ref a_waits, .ref a_tape, .ref a_text, .int v_taped, .int v_size, .int v_at, .int v_fault, .int v_rules, .ref a_statements, .ref a_taken, .ref a_sort, .ref a_first, .ref a_second, .int v_wordEnd, .int v_number])), (a_isPriest, .inl (cZ, 24, .inl ga_)), (a_bars, .inl (cI, 24, .inl gb_)), (a_joined, .inl (cI, 24, .inl gc_))] H := hP
      have hD : va_D A [(h, .inr (11, [.int v_today, .int v_monks, .int v_aways, .int v_feasts, .int v_gifts, .int v_leaves, .int v_lates, .int v_store, .int v_allCandles, .ref a_isPriest, .ref a_bars, .ref a_joined, .ref a_turns, .ref a_awayMonk, .ref a_awayFrom, .ref a_awayTo, .ref a_feastDay, .ref a_rank, .ref a_isWeekly, .ref a_isDouble, .ref a_giftDay, .ref a_giftFrom, .ref a_owed, .ref a_said, .ref a_spared, .ref a_leaveGift, .ref a_leaveFrom, .ref a_leaveTo, .ref a_lateDay, .ref a_lateOffice, .ref a_lateBy, .ref a_guests, .ref a_who, .ref a_used, .ref a_lacks, .ref a_candles, .ref a_masses, .ref a_owing, .ref a_heldOn, .ref a_waits, .ref a_tape, .ref a_text, .int v_taped, .int v_size, .int v_at, .int v_fault, .int v_rules, .ref a_statements, .ref a_taken, .ref a_sort, .ref a_first, .ref a_second, .int v_wordEnd, .int v_number])), (a_isPriest, .inl (cZ, 24, .inl ga_)), (a_bars, .inl (cI, 24, .inl gb_)), (a_joined, .inl (cI, 24, .inl gc_))] := hD
      refine lv_aload_n hx hb dX12_monk_54 rfl (lv_at hl 0 rfl) ?_
      refine lv_dup hx hb dX12_monk_55 rfl ?_
      refine va_get (D := D) (ci := 11) (v := .int v_monks) (C := RX12) (T := TX12) (N := 54) hx hb hts in_M_monk_X12 hown hK.1 hP 0 rfl rfl 1 (by decide) lk0 (fun _ h9 => h9) rfl dX12_monk_56 ?_
      refine lv_iconst (v := 1) hx hb dX12_monk_59 (by decide) ?_
      refine lv_iadd hx hb dX12_monk_60 ?_
      refine lv_topi (fun nn enn => ?_)
      first | have tnn := t_add enn (by omega) (by omega) | skip
      refine va_put (D := D) (ci := 11) (v := .int nn) (ty := .int) (C := RX12) (T := TX12) (N := 54) hx hb hts in_M_monk_X12 tyX12 tyX12_ok nmX12 hown hK.1 hP hD hS 0 rfl rfl 1 (by decide) lk0 (fun _ h9 => h9) rfl (by decide +kernel) rfl rfl (Nat.le_of_ble_eq_true rfl) dX12_monk_61 (fun H locs hP hD hS => ?_)
      have hP : va_P D vwCl [(h, .inr (11, [.int v_today, .int nn, .int v_aways, .int v_feasts, .int v_gifts, .int v_leaves, .int v_lates, .int v_store, .int v_allCandles, .ref a_isPriest, .ref a_bars, .ref a_joined, .ref a_turns, .ref a_awayMonk, .ref a_awayFrom, .ref a_awayTo, .ref a_feastDay, .ref a_rank, .ref a_isWeekly, .ref a_isDouble, .ref a_giftDay, .ref a_giftFrom, .ref a_owed, .ref a_said, .ref a_spared, .ref a_leaveGift, .ref a_leaveFrom, .ref a_leaveTo, .ref a_lateDay, .ref a_lateOffice, .ref a_lateBy, .ref a_guests, .ref a_who, .ref a_used, .ref a_lacks, .ref a_candles, .ref a_masses, .ref a_owing, .ref a_heldOn, .ref a_waits, .ref a_tape, .ref a_text, .int v_taped, .int v_size, .int v_at, .int v_fault, .int v_rules, .ref a_statements, .ref a_taken, .ref a_sort, .ref a_first, .ref a_second, .int v_wordEnd, .int v_number])), (a_isPriest, .inl (cZ, 24, .inl ga_)), (a_bars, .inl (cI, 24, .inl gb_)), (a_joined, .inl (cI, 24, .inl gc_))] H := hP
      have hD : va_D A [(h, .inr (11, [.int v_today, .int nn, .int v_aways, .int v_feasts, .int v_gifts, .int v_leaves, .int v_lates, .int v_store, .int v_allCandles, .ref a_isPriest, .ref a_bars, .ref a_joined, .ref a_turns, .ref a_awayMonk, .ref a_awayFrom, .ref a_awayTo, .ref a_feastDay, .ref a_rank, .ref a_isWeekly, .ref a_isDouble, .ref a_giftDay, .ref a_giftFrom, .ref a_owed, .ref a_said, .ref a_spared, .ref a_leaveGift, .ref a_leaveFrom, .ref a_leaveTo, .ref a_lateDay, .ref a_lateOffice, .ref a_lateBy, .ref a_guests, .ref a_who, .ref a_used, .ref a_lacks, .ref a_candles, .ref a_masses, .ref a_owing, .ref a_heldOn, .ref a_waits, .ref a_tape, .ref a_text, .int v_taped, .int v_size, .int v_at, .int v_fault, .int v_rules, .ref a_statements, .ref a_taken, .ref a_sort, .ref a_first, .ref a_second, .int v_wordEnd, .int v_number])), (a_isPriest, .inl (cZ, 24, .inl ga_)), (a_bars, .inl (cI, 24, .inl gb_)), (a_joined, .inl (cI, 24, .inl gc_))] := hD
      refine lv_aload_n hx hb dX12_monk_64 rfl (lv_at hl 0 rfl) ?_
      refine va_get (D := D) (ci := 11) (v := .int nn) (C := RX12) (T := TX12) (N := 54) hx hb hts in_M_monk_X12 hown hK.1 hP 0 rfl rfl 1 (by decide) lk0 (fun _ h9 => h9) rfl dX12_monk_65 ?_
      refine lv_iconst (v := 1) hx hb dX12_monk_68 (by decide) ?_
      refine lv_isub hx hb dX12_monk_69 ?_
      refine lv_topi (fun x_8 ex_8 => ?_)
      first | have tx_8 := t_sub ex_8 (by omega) (by omega) | skip
      exact hret x_8 (nn, ga_, gb_, gc_) _ _ _ _ (show (((0 ≤ b.toInt ∧ b.toInt ≤ 15) ∧ v_monks.toInt < 24) ∧ x_8.toInt = v_monks.toInt ∧ nn = v_monks + 1 ∧ ga_ = upd f_isPriest v_monks.toNatClampNeg (vp_nar .boolean px) ∧ gb_ = upd f_bars v_monks.toNatClampNeg b ∧ gc_ = upd f_joined v_monks.toNatClampNeg v_today) ∨ (¬ ((0 ≤ b.toInt ∧ b.toInt ≤ 15) ∧ v_monks.toInt < 24) ∧ x_8.toInt = -1 ∧ nn = v_monks ∧ ga_ = f_isPriest ∧ gb_ = f_bars ∧ gc_ = f_joined) from by first | exact Or.inl ⟨by omega, by omega, enn, ega_, egb_, egc_⟩ | exact Or.inr ⟨by omega, by omega, rfl, rfl, rfl, rfl⟩) rfl (hP.sub [0, 1, 2, 3] rfl) (hD.sub [0, 1, 2, 3] (by decide +kernel) rfl) hS dX12_monk_70
    · have tc_3 := t_eq c_3
      refine lv_iconst (v := (-1)) hx hb dX12_monk_19 (by decide) ?_
      exact hret (-1) (v_monks, f_isPriest, f_bars, f_joined) _ _ _ _ (show (((0 ≤ b.toInt ∧ b.toInt ≤ 15) ∧ v_monks.toInt < 24) ∧ (-1 : Int32).toInt = v_monks.toInt ∧ v_monks = v_monks + 1 ∧ f_isPriest = upd f_isPriest v_monks.toNatClampNeg (vp_nar .boolean px) ∧ f_bars = upd f_bars v_monks.toNatClampNeg b ∧ f_joined = upd f_joined v_monks.toNatClampNeg v_today) ∨ (¬ ((0 ≤ b.toInt ∧ b.toInt ≤ 15) ∧ v_monks.toInt < 24) ∧ (-1 : Int32).toInt = -1 ∧ v_monks = v_monks ∧ f_isPriest = f_isPriest ∧ f_bars = f_bars ∧ f_joined = f_joined) from by first | exact Or.inl ⟨by omega, by omega, enn, ega_, egb_, egc_⟩ | exact Or.inr ⟨by omega, by omega, rfl, rfl, rfl, rfl⟩) rfl (hP.sub [0, 1, 2, 3] rfl) (hD.sub [0, 1, 2, 3] (by decide +kernel) rfl) hS dX12_monk_20

theorem in_e_tell_X5 : ∀ w ∈ wsX50, w ∈ wsX5_tellAbsence := tl_X5_tellAbsence_X5
set_option maxHeartbeats 8000000 in
set_option maxRecDepth 100000 in
theorem e_tell {l : Launch} {D : va_G} {cI cZ cB : ClassId} {sz : Nat} {h a_priests a_barred a_cameOn a_absent a_absentFrom a_absentTo : Nat} {v_size v_rows : Int32} {f_absent f_absentFrom f_absentTo : Nat → Int32} {px b t : Int32} (hv_rows0 : 0 ≤ v_rows.toInt) (hv_rows1 : v_rows.toInt ≤ 60) : Met l yX5_tellAbsence wsX5_tellAbsence ({ frames := 0, cells := 0, slots := 0, locals := 0 }) (RW D cI cZ cB [.ref h, .int px, .int b, .int t] sz [(h, .inr (5, [.ref a_priests, .ref a_barred, .ref a_cameOn, .ref a_absent, .ref a_absentFrom, .ref a_absentTo, .int v_size, .int v_rows])), (a_absent, .inl (cI, 60, .inl f_absent)), (a_absentFrom, .inl (cI, 60, .inl f_absentFrom)), (a_absentTo, .inl (cI, 60, .inl f_absentTo))]) (va_Qi (fun (r : Int32) (u : Int32 × (Nat → Int32) × (Nat → Int32) × (Nat → Int32)) => ((v_rows.toInt < 60) ∧ r.toInt = v_rows.toInt + 1 ∧ u.1 = v_rows + 1 ∧ u.2.1 = upd f_absent v_rows.toNatClampNeg px ∧ u.2.2.1 = upd f_absentFrom v_rows.toNatClampNeg b ∧ u.2.2.2 = upd f_absentTo v_rows.toNatClampNeg t) ∨ (¬ (v_rows.toInt < 60) ∧ r.toInt = -1 ∧ u.1 = v_rows ∧ u.2.1 = f_absent ∧ u.2.2.1 = f_absentFrom ∧ u.2.2.2 = f_absentTo)) (BW D [(h, .inr (5, [.ref a_priests, .ref a_barred, .ref a_cameOn, .ref a_absent, .ref a_absentFrom, .ref a_absentTo, .int v_size, .int v_rows])), (a_absent, .inl (cI, 60, .inl f_absent)), (a_absentFrom, .inl (cI, 60, .inl f_absentFrom)), (a_absentTo, .inl (cI, 60, .inl f_absentTo))] sz (fun u : Int32 × (Nat → Int32) × (Nat → Int32) × (Nat → Int32) => [(h, .inr (5, [.ref a_priests, .ref a_barred, .ref a_cameOn, .ref a_absent, .ref a_absentFrom, .ref a_absentTo, .int v_size, .int u.1])), (a_absent, .inl (cI, 60, .inl u.2.1)), (a_absentFrom, .inl (cI, 60, .inl u.2.2.1)), (a_absentTo, .inl (cI, 60, .inl u.2.2.2))])) (va_A [(h, .inr (5, [.ref a_priests, .ref a_barred, .ref a_cameOn, .ref a_absent, .ref a_absentFrom, .ref a_absentTo, .int v_size, .int v_rows])), (a_absent, .inl (cI, 60, .inl f_absent)), (a_absentFrom, .inl (cI, 60, .inl f_absentFrom)), (a_absentTo, .inl (cI, 60, .inl f_absentTo))] sz)) 0 (0) (va_A [(h, .inr (5, [.ref a_priests, .ref a_barred, .ref a_cameOn, .ref a_absent, .ref a_absentFrom, .ref a_absentTo, .int v_size, .int v_rows])), (a_absent, .inl (cI, 60, .inl f_absent)), (a_absentFrom, .inl (cI, 60, .inl f_absentFrom)), (a_absentTo, .inl (cI, 60, .inl f_absentTo))] sz) := by
  refine rw_ret (cc := cX5_tellAbsence) (maxL := 4) (ty := .int) (own := RX5) (by decide) rfl rfl (Nat.le_of_ble_eq_true rfl) ?_
  intro p e s m args below meth c Q A S hin hret hP hK hD hA hS ls hl
  obtain ⟨hx, hb, hml, hown, hts⟩ := id S
  have hl : lv_has ls 4 [(0, .ref h), (1, .int px), (2, .int b), (3, .int t)] := hl
  have kkm1 : (-1 : Int32).toInt = -1 := by decide
  have kk0 : (0 : Int32).toInt = 0 := by decide
  have kk1 : (1 : Int32).toInt = 1 := by decide
  have kk60 : (60 : Int32).toInt = 60 := by decide
  have lk0 := hts (.fieldLink RX5 35 "AbbeyHours$Monks" "rows" "I") (List.mem_cons_of_mem _ (List.mem_append_left _ (List.mem_of_getElem? (i := 0) rfl)))
  have lk1 := hts (.fieldLink RX5 22 "AbbeyHours$Monks" "absent" "[I") (List.mem_cons_of_mem _ (List.mem_append_left _ (List.mem_of_getElem? (i := 1) rfl)))
  have lk2 := hts (.fieldLink RX5 25 "AbbeyHours$Monks" "absentFrom" "[I") (List.mem_cons_of_mem _ (List.mem_append_left _ (List.mem_of_getElem? (i := 2) rfl)))
  have lk3 := hts (.fieldLink RX5 28 "AbbeyHours$Monks" "absentTo" "[I") (List.mem_cons_of_mem _ (List.mem_append_left _ (List.mem_of_getElem? (i := 3) rfl)))
  refine lv_aload_n hx hb dX5_tellAbsence_0 rfl (lv_at hl 0 rfl) ?_
  refine va_get (D := D) (ci := 5) (v := .int v_rows) (C := RX5) (T := TX5) (N := 8) hx hb hts in_e_tell_X5 hown hK.1 hP 0 rfl rfl 7 (by decide) lk0 (fun _ h9 => h9) rfl dX5_tellAbsence_1 ?_
  refine lv_bipush (v := 60) hx hb dX5_tellAbsence_4 (by decide) ?_
  refine lv_icmp_lt (tgt := 11) hx hb dX5_tellAbsence_6 (by decide) (fun c_1 => ?_) (fun c_1 => ?_)
  · have tc_1 := t_lt c_1
    refine lv_aload_n hx hb dX5_tellAbsence_11 rfl (lv_at hl 0 rfl) ?_
    refine va_get (D := D) (ci := 5) (v := .ref a_absent) (C := RX5) (T := TX5) (N := 8) hx hb hts in_e_tell_X5 hown hK.1 hP 0 rfl rfl 3 (by decide) lk1 (fun _ h9 => h9) rfl dX5_tellAbsence_12 ?_
    refine lv_aload_n hx hb dX5_tellAbsence_15 rfl (lv_at hl 0 rfl) ?_
    refine va_get (D := D) (ci := 5) (v := .int v_rows) (C := RX5) (T := TX5) (N := 8) hx hb hts in_e_tell_X5 hown hK.1 hP 0 rfl rfl 7 (by decide) lk0 (fun _ h9 => h9) rfl dX5_tellAbsence_16 ?_
    refine lv_iload_n hx hb dX5_tellAbsence_19 rfl (lv_at hl 1 rfl) ?_
    refine va_iast hx hb hK.1 hP hD hS 1 0 rfl rfl (t_in (by omega) (by omega)) dX5_tellAbsence_20 (fun H locs hP hD hS => ?_)
    obtain ⟨ga_, ega_⟩ : ∃ z : Nat → Int32, z = upd f_absent ((v_rows : Int32).toNatClampNeg) px := ⟨_, rfl⟩
    rw [← ega_] at hP hD
    have hP : va_P D vwCl [(h, .inr (5, [.ref a_priests, .ref a_barred, .ref a_cameOn, .ref a_absent, .ref a_absentFrom, .ref a_absentTo, .int v_size, .int v_rows])), (a_absent, .inl (cI, 60, .inl ga_)), (a_absentFrom, .inl (cI, 60, .inl f_absentFrom)), (a_absentTo, .inl (cI, 60, .inl f_absentTo))] H := hP
    have hD : va_D A [(h, .inr (5, [.ref a_priests, .ref a_barred, .ref a_cameOn, .ref a_absent, .ref a_absentFrom, .ref a_absentTo, .int v_size, .int v_rows])), (a_absent, .inl (cI, 60, .inl ga_)), (a_absentFrom, .inl (cI, 60, .inl f_absentFrom)), (a_absentTo, .inl (cI, 60, .inl f_absentTo))] := hD
    refine lv_aload_n hx hb dX5_tellAbsence_21 rfl (lv_at hl 0 rfl) ?_
    refine va_get (D := D) (ci := 5) (v := .ref a_absentFrom) (C := RX5) (T := TX5) (N := 8) hx hb hts in_e_tell_X5 hown hK.1 hP 0 rfl rfl 4 (by decide) lk2 (fun _ h9 => h9) rfl dX5_tellAbsence_22 ?_
    refine lv_aload_n hx hb dX5_tellAbsence_25 rfl (lv_at hl 0 rfl) ?_
    refine va_get (D := D) (ci := 5) (v := .int v_rows) (C := RX5) (T := TX5) (N := 8) hx hb hts in_e_tell_X5 hown hK.1 hP 0 rfl rfl 7 (by decide) lk0 (fun _ h9 => h9) rfl dX5_tellAbsence_26 ?_
    refine lv_iload_n hx hb dX5_tellAbsence_29 rfl (lv_at hl 2 rfl) ?_
    refine va_iast hx hb hK.1 hP hD hS 2 0 rfl rfl (t_in (by omega) (by omega)) dX5_tellAbsence_30 (fun H locs hP hD hS => ?_)
    obtain ⟨gb_, egb_⟩ : ∃ z : Nat → Int32, z = upd f_absentFrom ((v_rows : Int32).toNatClampNeg) b := ⟨_, rfl⟩
    rw [← egb_] at hP hD
    have hP : va_P D vwCl [(h, .inr (5, [.ref a_priests, .ref a_barred, .ref a_cameOn, .ref a_absent, .ref a_absentFrom, .ref a_absentTo, .int v_size, .int v_rows])), (a_absent, .inl (cI, 60, .inl ga_)), (a_absentFrom, .inl (cI, 60, .inl gb_)), (a_absentTo, .inl (cI, 60, .inl f_absentTo))] H := hP
    have hD : va_D A [(h, .inr (5, [.ref a_priests, .ref a_barred, .ref a_cameOn, .ref a_absent, .ref a_absentFrom, .ref a_absentTo, .int v_size, .int v_rows])), (a_absent, .inl (cI, 60, .inl ga_)), (a_absentFrom, .inl (cI, 60, .inl gb_)), (a_absentTo, .inl (cI, 60, .inl f_absentTo))] := hD
    refine lv_aload_n hx hb dX5_tellAbsence_31 rfl (lv_at hl 0 rfl) ?_
    refine va_get (D := D) (ci := 5) (v := .ref a_absentTo) (C := RX5) (T := TX5) (N := 8) hx hb hts in_e_tell_X5 hown hK.1 hP 0 rfl rfl 5 (by decide) lk3 (fun _ h9 => h9) rfl dX5_tellAbsence_32 ?_
    refine lv_aload_n hx hb dX5_tellAbsence_35 rfl (lv_at hl 0 rfl) ?_
    refine va_get (D := D) (ci := 5) (v := .int v_rows) (C := RX5) (T := TX5) (N := 8) hx hb hts in_e_tell_X5 hown hK.1 hP 0 rfl rfl 7 (by decide) lk0 (fun _ h9 => h9) rfl dX5_tellAbsence_36 ?_
    refine lv_iload_n hx hb dX5_tellAbsence_39 rfl (lv_at hl 3 rfl) ?_
    refine va_iast hx hb hK.1 hP hD hS 3 0 rfl rfl (t_in (by omega) (by omega)) dX5_tellAbsence_40 (fun H locs hP hD hS => ?_)
    obtain ⟨gc_, egc_⟩ : ∃ z : Nat → Int32, z = upd f_absentTo ((v_rows : Int32).toNatClampNeg) t := ⟨_, rfl⟩
    rw [← egc_] at hP hD
    have hP : va_P D vwCl [(h, .inr (5, [.ref a_priests, .ref a_barred, .ref a_cameOn, .ref a_absent, .ref a_absentFrom, .ref a_absentTo, .int v_size, .int v_rows])), (a_absent, .inl (cI, 60, .inl ga_)), (a_absentFrom, .inl (cI, 60, .inl gb_)), (a_absentTo, .inl (cI, 60, .inl gc_))] H := hP
    have hD : va_D A [(h, .inr (5, [.ref a_priests, .ref a_barred, .ref a_cameOn, .ref a_absent, .ref a_absentFrom, .ref a_absentTo, .int v_size, .int v_rows])), (a_absent, .inl (cI, 60, .inl ga_)), (a_absentFrom, .inl (cI, 60, .inl gb_)), (a_absentTo, .inl (cI, 60, .inl gc_))] := hD
    refine lv_aload_n hx hb dX5_tellAbsence_41 rfl (lv_at hl 0 rfl) ?_
    refine lv_dup hx hb dX5_tellAbsence_42 rfl ?_
    refine va_get (D := D) (ci := 5) (v := .int v_rows) (C := RX5) (T := TX5) (N := 8) hx hb hts in_e_tell_X5 hown hK.1 hP 0 rfl rfl 7 (by decide) lk0 (fun _ h9 => h9) rfl dX5_tellAbsence_43 ?_
    refine lv_iconst (v := 1) hx hb dX5_tellAbsence_46 (by decide) ?_
    refine lv_iadd hx hb dX5_tellAbsence_47 ?_
    refine lv_topi (fun nn enn => ?_)
    first | have tnn := t_add enn (by omega) (by omega) | skip
    refine va_put (D := D) (ci := 5) (v := .int nn) (ty := .int) (C := RX5) (T := TX5) (N := 8) hx hb hts in_e_tell_X5 tyX5 tyX5_ok nmX5 hown hK.1 hP hD hS 0 rfl rfl 7 (by decide) lk0 (fun _ h9 => h9) rfl (by decide +kernel) rfl rfl (Nat.le_of_ble_eq_true rfl) dX5_tellAbsence_48 (fun H locs hP hD hS => ?_)
    have hP : va_P D vwCl [(h, .inr (5, [.ref a_priests, .ref a_barred, .ref a_cameOn, .ref a_absent, .ref a_absentFrom, .ref a_absentTo, .int v_size, .int nn])), (a_absent, .inl (cI, 60, .inl ga_)), (a_absentFrom, .inl (cI, 60, .inl gb_)), (a_absentTo, .inl (cI, 60, .inl gc_))] H := hP
    have hD : va_D A [(h, .inr (5, [.ref a_priests, .ref a_barred, .ref a_cameOn, .ref a_absent, .ref a_absentFrom, .ref a_absentTo, .int v_size, .int nn])), (a_absent, .inl (cI, 60, .inl ga_)), (a_absentFrom, .inl (cI, 60, .inl gb_)), (a_absentTo, .inl (cI, 60, .inl gc_))] := hD
    refine lv_aload_n hx hb dX5_tellAbsence_51 rfl (lv_at hl 0 rfl) ?_
    refine va_get (D := D) (ci := 5) (v := .int nn) (C := RX5) (T := TX5) (N := 8) hx hb hts in_e_tell_X5 hown hK.1 hP 0 rfl rfl 7 (by decide) lk0 (fun _ h9 => h9) rfl dX5_tellAbsence_52 ?_
    exact hret nn (nn, ga_, gb_, gc_) _ _ _ _ (show ((v_rows.toInt < 60) ∧ nn.toInt = v_rows.toInt + 1 ∧ nn = v_rows + 1 ∧ ga_ = upd f_absent v_rows.toNatClampNeg px ∧ gb_ = upd f_absentFrom v_rows.toNatClampNeg b ∧ gc_ = upd f_absentTo v_rows.toNatClampNeg t) ∨ (¬ (v_rows.toInt < 60) ∧ nn.toInt = -1 ∧ nn = v_rows ∧ ga_ = f_absent ∧ gb_ = f_absentFrom ∧ gc_ = f_absentTo) from by first | exact Or.inl ⟨by omega, by omega, enn, ega_, egb_, egc_⟩ | exact Or.inr ⟨by omega, by omega, rfl, rfl, rfl, rfl⟩) rfl (hP.sub [0, 1, 2, 3] rfl) (hD.sub [0, 1, 2, 3] (by decide +kernel) rfl) hS dX5_tellAbsence_55
  · have tc_1 := t_nlt c_1
    refine lv_iconst (v := (-1)) hx hb dX5_tellAbsence_9 (by decide) ?_
    exact hret (-1) (v_rows, f_absent, f_absentFrom, f_absentTo) _ _ _ _ (show ((v_rows.toInt < 60) ∧ (-1 : Int32).toInt = v_rows.toInt + 1 ∧ v_rows = v_rows + 1 ∧ f_absent = upd f_absent v_rows.toNatClampNeg px ∧ f_absentFrom = upd f_absentFrom v_rows.toNatClampNeg b ∧ f_absentTo = upd f_absentTo v_rows.toNatClampNeg t) ∨ (¬ (v_rows.toInt < 60) ∧ (-1 : Int32).toInt = -1 ∧ v_rows = v_rows ∧ f_absent = f_absent ∧ f_absentFrom = f_absentFrom ∧ f_absentTo = f_absentTo) from by first | exact Or.inl ⟨by omega, by omega, enn, ega_, egb_, egc_⟩ | exact Or.inr ⟨by omega, by omega, rfl, rfl, rfl, rfl⟩) rfl (hP.sub [0, 1, 2, 3] rfl) (hD.sub [0, 1, 2, 3] (by decide +kernel) rfl) hS dX5_tellAbsence_10

theorem in_E_away_X11 : ∀ w ∈ wsX110, w ∈ wsX11_away := tl_X11_away_X11
set_option maxHeartbeats 8000000 in
set_option maxRecDepth 100000 in
theorem E_away {l : Launch} {D : va_G} {cI cZ cB : ClassId} {sz : Nat} {h a_bells a_feasts a_tape a_reader a_rules a_monks a_duties a_gifts a_figures ma_priests ma_barred ma_cameOn ma_absent ma_absentFrom ma_absentTo : Nat} {v_today v_stock v_guestHeads v_guestRanks v_faultPlace v_candlesInAll mv_size mv_rows : Int32} {mf_absent mf_absentFrom mf_absentTo : Nat → Int32} {i a b : Int32} (h0_today : 0 ≤ v_today.toInt) (h1_today : v_today.toInt ≤ 1094) (hmv_size0 : 0 ≤ mv_size.toInt) (hmv_size1 : mv_size.toInt ≤ 24) (hmv_rows0 : 0 ≤ mv_rows.toInt) (hmv_rows1 : mv_rows.toInt ≤ 60) : Met l yX11_away wsX11_away ({ frames := 3, cells := 0, slots := 0, locals := 63 }) (RW D cI cZ cB [.ref h, .int i, .int a, .int b] sz [(h, .inr (10, [.ref a_bells, .ref a_feasts, .ref a_tape, .ref a_reader, .ref a_rules, .ref a_monks, .ref a_duties, .ref a_gifts, .ref a_figures, .int v_today, .int v_stock, .int v_guestHeads, .int v_guestRanks, .int v_faultPlace, .int v_candlesInAll])), (a_monks, .inr (5, [.ref ma_priests, .ref ma_barred, .ref ma_cameOn, .ref ma_absent, .ref ma_absentFrom, .ref ma_absentTo, .int mv_size, .int mv_rows])), (ma_absent, .inl (cI, 60, .inl mf_absent)), (ma_absentFrom, .inl (cI, 60, .inl mf_absentFrom)), (ma_absentTo, .inl (cI, 60, .inl mf_absentTo))]) (va_Qi (fun (r : Int32) (u : Int32 × (Nat → Int32) × (Nat → Int32) × (Nat → Int32)) => (((0 ≤ i.toInt ∧ i.toInt < mv_size.toInt ∧ v_today.toInt ≤ a.toInt ∧ a.toInt ≤ b.toInt ∧ b.toInt ≤ 1094) ∧ mv_rows.toInt < 60) ∧ r.toInt = mv_rows.toInt + 1 ∧ u.1 = mv_rows + 1 ∧ u.2.1 = upd mf_absent mv_rows.toNatClampNeg i ∧ u.2.2.1 = upd mf_absentFrom mv_rows.toNatClampNeg a ∧ u.2.2.2 = upd mf_absentTo mv_rows.toNatClampNeg b) ∨ (¬ ((0 ≤ i.toInt ∧ i.toInt < mv_size.toInt ∧ v_today.toInt ≤ a.toInt ∧ a.toInt ≤ b.toInt ∧ b.toInt ≤ 1094) ∧ mv_rows.toInt < 60) ∧ r.toInt = -1 ∧ u.1 = mv_rows ∧ u.2.1 = mf_absent ∧ u.2.2.1 = mf_absentFrom ∧ u.2.2.2 = mf_absentTo)) (BW D [(h, .inr (10, [.ref a_bells, .ref a_feasts, .ref a_tape, .ref a_reader, .ref a_rules, .ref a_monks, .ref a_duties, .ref a_gifts, .ref a_figures, .int v_today, .int v_stock, .int v_guestHeads, .int v_guestRanks, .int v_faultPlace, .int v_candlesInAll])), (a_monks, .inr (5, [.ref ma_priests, .ref ma_barred, .ref ma_cameOn, .ref ma_absent, .ref ma_absentFrom, .ref ma_absentTo, .int mv_size, .int mv_rows])), (ma_absent, .inl (cI, 60, .inl mf_absent)), (ma_absentFrom, .inl (cI, 60, .inl mf_absentFrom)), (ma_absentTo, .inl (cI, 60, .inl mf_absentTo))] sz (fun u : Int32 × (Nat → Int32) × (Nat → Int32) × (Nat → Int32) => [(h, .inr (10, [.ref a_bells, .ref a_feasts, .ref a_tape, .ref a_reader, .ref a_rules, .ref a_monks, .ref a_duties, .ref a_gifts, .ref a_figures, .int v_today, .int v_stock, .int v_guestHeads, .int v_guestRanks, .int v_faultPlace, .int v_candlesInAll])), (a_monks, .inr (5, [.ref ma_priests, .ref ma_barred, .ref ma_cameOn, .ref ma_absent, .ref ma_absentFrom, .ref ma_absentTo, .int mv_size, .int u.1])), (ma_absent, .inl (cI, 60, .inl u.2.1)), (ma_absentFrom, .inl (cI, 60, .inl u.2.2.1)), (ma_absentTo, .inl (cI, 60, .inl u.2.2.2))])) (va_A [(h, .inr (10, [.ref a_bells, .ref a_feasts, .ref a_tape, .ref a_reader, .ref a_rules, .ref a_monks, .ref a_duties, .ref a_gifts, .ref a_figures, .int v_today, .int v_stock, .int v_guestHeads, .int v_guestRanks, .int v_faultPlace, .int v_candlesInAll])), (a_monks, .inr (5, [.ref ma_priests, .ref ma_barred, .ref ma_cameOn, .ref ma_absent, .ref ma_absentFrom, .ref ma_absentTo, .int mv_size, .int mv_rows])), (ma_absent, .inl (cI, 60, .inl mf_absent)), (ma_absentFrom, .inl (cI, 60, .inl mf_absentFrom)), (ma_absentTo, .inl (cI, 60, .inl mf_absentTo))] sz)) 0 (0) (va_A [(h, .inr (10, [.ref a_bells, .ref a_feasts, .ref a_tape, .ref a_reader, .ref a_rules, .ref a_monks, .ref a_duties, .ref a_gifts, .ref a_figures, .int v_today, .int v_stock, .int v_guestHeads, .int v_guestRanks, .int v_faultPlace, .int v_candlesInAll])), (a_monks, .inr (5, [.ref ma_priests, .ref ma_barred, .ref ma_cameOn, .ref ma_absent, .ref ma_absentFrom, .ref ma_absentTo, .int mv_size, .int mv_rows])), (ma_absent, .inl (cI, 60, .inl mf_absent)), (ma_absentFrom, .inl (cI, 60, .inl mf_absentFrom)), (ma_absentTo, .inl (cI, 60, .inl mf_absentTo))] sz) := by
  refine rw_ret (cc := cX11_away) (maxL := 5) (ty := .int) (own := RX11) (by decide) rfl rfl (Nat.le_of_ble_eq_true rfl) ?_
  intro p e s m args below meth c Q A S hin hret hP hK hD hA hS ls hl
  obtain ⟨hx, hb, hml, hown, hts⟩ := id S
  have hl : lv_has ls 5 [(0, .ref h), (1, .int i), (2, .int a), (3, .int b)] := hl
  have kkm1 : (-1 : Int32).toInt = -1 := by decide
  have kk0 : (0 : Int32).toInt = 0 := by decide
  have kk1 : (1 : Int32).toInt = 1 := by decide
  have lk0 := hts (.fieldLink RX11 47 "AbbeyHours" "monks" "LAbbeyHours$Monks;") (mc_X11_away_r1 _ (List.mem_of_getElem? (i := 0) rfl))
  have lk1 := hts (.fieldLink RX11 82 "AbbeyHours" "today" "I") (mc_X11_away_r1 _ (List.mem_of_getElem? (i := 1) rfl))
  refine lv_aload_n hx hb dX11_away_0 rfl (lv_at hl 0 rfl) ?_
  refine va_get (D := D) (ci := 10) (v := .ref a_monks) (C := RX11) (T := TX11) (N := 15) hx hb hts in_E_away_X11 hown hK.1 hP 0 rfl rfl 5 (by decide) lk0 (fun _ h9 => h9) rfl dX11_away_1 ?_
  refine lv_iload_n hx hb dX11_away_4 rfl (lv_at hl 1 rfl) ?_
  have hPc := hP.sub (ws' := [(a_monks, .inr (5, [.ref ma_priests, .ref ma_barred, .ref ma_cameOn, .ref ma_absent, .ref ma_absentFrom, .ref ma_absentTo, .int mv_size, .int mv_rows]))]) [1] rfl
  refine roV (As := [.int i]) (rest := []) S (k_has  ) (cwV 1 hts gX11_away_X5_has rfl rfl rfl ⟨rfl, hd_X5_has⟩ ⟨Nat.le_of_ble_eq_true rfl, Nat.le_of_ble_eq_true rfl⟩) hK hPc (va_recv hK.1 hPc (ci := 5) (q0 := 0) rfl rfl) rfl hl.1 rfl (Nat.le_of_ble_eq_true rfl) dX11_away_5 ⟨Nat.le_of_ble_eq_true rfl, Nat.le_of_ble_eq_true rfl⟩ (fun r_1 hw_1 => ?_)
  have hw_1 : (r_1.toInt = 1 ∧ 0 ≤ i.toInt ∧ i.toInt < mv_size.toInt) ∨ (r_1.toInt = 0 ∧ (i.toInt < 0 ∨ mv_size.toInt ≤ i.toInt)) := hw_1
  refine lv_if_eq (tgt := 31) hx hb dX11_away_8 (by decide) (fun c_2 => ?_) (fun c_2 => ?_)
  · have tc_2 := t_eq c_2
    refine lv_iconst (v := 0) hx hb dX11_away_31 (by decide) ?_
    refine lv_istore (lv' := [(4, .int 0), (0, .ref h), (1, .int i), (2, .int a), (3, .int b)]) hx hb dX11_away_32 hl (by decide) rfl (fun ls hl => ?_)
    refine lv_iload hx hb dX11_away_34 (lv_at hl 0 rfl) ?_
    refine lv_if_eq (tgt := 52) hx hb dX11_away_36 (by decide) (fun c_3 => ?_) (fun c_3 => ?_)
    · have tc_3 := t_eq c_3
      refine lv_iconst (v := (-1)) hx hb dX11_away_52 (by decide) ?_
      exact hret (-1) (mv_rows, mf_absent, mf_absentFrom, mf_absentTo) _ _ _ _ (show (((0 ≤ i.toInt ∧ i.toInt < mv_size.toInt ∧ v_today.toInt ≤ a.toInt ∧ a.toInt ≤ b.toInt ∧ b.toInt ≤ 1094) ∧ mv_rows.toInt < 60) ∧ (-1 : Int32).toInt = mv_rows.toInt + 1 ∧ mv_rows = mv_rows + 1 ∧ mf_absent = upd mf_absent mv_rows.toNatClampNeg i ∧ mf_absentFrom = upd mf_absentFrom mv_rows.toNatClampNeg a ∧ mf_absentTo = upd mf_absentTo mv_rows.toNatClampNeg b) ∨ (¬ ((0 ≤ i.toInt ∧ i.toInt < mv_size.toInt ∧ v_today.toInt ≤ a.toInt ∧ a.toInt ≤ b.toInt ∧ b.toInt ≤ 1094) ∧ mv_rows.toInt < 60) ∧ (-1 : Int32).toInt = -1 ∧ mv_rows = mv_rows ∧ mf_absent = mf_absent ∧ mf_absentFrom = mf_absentFrom ∧ mf_absentTo = mf_absentTo) from by first | (rcases hw_en with ⟨z1, z2⟩ | ⟨z1, z2⟩; exact Or.inl ⟨by omega, z2⟩; exact Or.inr ⟨by omega, z2⟩) | exact Or.inr ⟨by omega, by omega, rfl, rfl, rfl, rfl⟩) rfl (hP.sub [0, 1, 2, 3, 4] rfl) (hD.sub [0, 1, 2, 3, 4] (by decide +kernel) rfl) hS dX11_away_53
    · exact absurd c_3 (by decide)
  · have tc_2 := t_neq c_2
    refine lv_iload_n hx hb dX11_away_11 rfl (lv_at hl 2 rfl) ?_
    refine lv_aload_n hx hb dX11_away_12 rfl (lv_at hl 0 rfl) ?_
    refine va_get (D := D) (ci := 10) (v := .int v_today) (C := RX11) (T := TX11) (N := 15) hx hb hts in_E_away_X11 hown hK.1 hP 0 rfl rfl 9 (by decide) lk1 (fun _ h9 => h9) rfl dX11_away_13 ?_
    refine lv_icmp_lt (tgt := 31) hx hb dX11_away_16 (by decide) (fun c_4 => ?_) (fun c_4 => ?_)
    · have tc_4 := t_lt c_4
      refine lv_iconst (v := 0) hx hb dX11_away_31 (by decide) ?_
      refine lv_istore (lv' := [(4, .int 0), (0, .ref h), (1, .int i), (2, .int a), (3, .int b)]) hx hb dX11_away_32 hl (by decide) rfl (fun ls hl => ?_)
      refine lv_iload hx hb dX11_away_34 (lv_at hl 0 rfl) ?_
      refine lv_if_eq (tgt := 52) hx hb dX11_away_36 (by decide) (fun c_5 => ?_) (fun c_5 => ?_)
      · have tc_5 := t_eq c_5
        refine lv_iconst (v := (-1)) hx hb dX11_away_52 (by decide) ?_
        exact hret (-1) (mv_rows, mf_absent, mf_absentFrom, mf_absentTo) _ _ _ _ (show (((0 ≤ i.toInt ∧ i.toInt < mv_size.toInt ∧ v_today.toInt ≤ a.toInt ∧ a.toInt ≤ b.toInt ∧ b.toInt ≤ 1094) ∧ mv_rows.toInt < 60) ∧ (-1 : Int32).toInt = mv_rows.toInt + 1 ∧ mv_rows = mv_rows + 1 ∧ mf_absent = upd mf_absent mv_rows.toNatClampNeg i ∧ mf_absentFrom = upd mf_absentFrom mv_rows.toNatClampNeg a ∧ mf_absentTo = upd mf_absentTo mv_rows.toNatClampNeg b) ∨ (¬ ((0 ≤ i.toInt ∧ i.toInt < mv_size.toInt ∧ v_today.toInt ≤ a.toInt ∧ a.toInt ≤ b.toInt ∧ b.toInt ≤ 1094) ∧ mv_rows.toInt < 60) ∧ (-1 : Int32).toInt = -1 ∧ mv_rows = mv_rows ∧ mf_absent = mf_absent ∧ mf_absentFrom = mf_absentFrom ∧ mf_absentTo = mf_absentTo) from by first | (rcases hw_en with ⟨z1, z2⟩ | ⟨z1, z2⟩; exact Or.inl ⟨by omega, z2⟩; exact Or.inr ⟨by omega, z2⟩) | exact Or.inr ⟨by omega, by omega, rfl, rfl, rfl, rfl⟩) rfl (hP.sub [0, 1, 2, 3, 4] rfl) (hD.sub [0, 1, 2, 3, 4] (by decide +kernel) rfl) hS dX11_away_53
      · exact absurd c_5 (by decide)
    · have tc_4 := t_nlt c_4
      refine lv_iload_n hx hb dX11_away_19 rfl (lv_at hl 2 rfl) ?_
      refine lv_iload_n hx hb dX11_away_20 rfl (lv_at hl 3 rfl) ?_
      have hPc := hP.sub (ws' := []) [] rfl
      refine roS (As := [.int a, .int b]) (rest := []) S (w_isSpan  ) (va_cwS 2 hts gX11_away_X11_isSpan rfl rfl rfl hd_X11_isSpan ⟨Nat.le_of_ble_eq_true rfl, Nat.le_of_ble_eq_true rfl⟩) hK hPc rfl hl.1 rfl (Nat.le_of_ble_eq_true rfl) dX11_away_21 ⟨Nat.le_of_ble_eq_true rfl, Nat.le_of_ble_eq_true rfl⟩ (fun r_6 hw_6 => ?_)
      have hw_6 : (r_6.toInt = 1 ∧ 0 ≤ a.toInt ∧ a.toInt ≤ b.toInt ∧ b.toInt ≤ 1094) ∨ (r_6.toInt = 0 ∧ (a.toInt < 0 ∨ b.toInt < a.toInt ∨ 1094 < b.toInt)) := hw_6
      refine lv_if_eq (tgt := 31) hx hb dX11_away_24 (by decide) (fun c_7 => ?_) (fun c_7 => ?_)
      · have tc_7 := t_eq c_7
        refine lv_iconst (v := 0) hx hb dX11_away_31 (by decide) ?_
        refine lv_istore (lv' := [(4, .int 0), (0, .ref h), (1, .int i), (2, .int a), (3, .int b)]) hx hb dX11_away_32 hl (by decide) rfl (fun ls hl => ?_)
        refine lv_iload hx hb dX11_away_34 (lv_at hl 0 rfl) ?_
        refine lv_if_eq (tgt := 52) hx hb dX11_away_36 (by decide) (fun c_8 => ?_) (fun c_8 => ?_)
        · have tc_8 := t_eq c_8
          refine lv_iconst (v := (-1)) hx hb dX11_away_52 (by decide) ?_
          exact hret (-1) (mv_rows, mf_absent, mf_absentFrom, mf_absentTo) _ _ _ _ (show (((0 ≤ i.toInt ∧ i.toInt < mv_size.toInt ∧ v_today.toInt ≤ a.toInt ∧ a.toInt ≤ b.toInt ∧ b.toInt ≤ 1094) ∧ mv_rows.toInt < 60) ∧ (-1 : Int32).toInt = mv_rows.toInt + 1 ∧ mv_rows = mv_rows + 1 ∧ mf_absent = upd mf_absent mv_rows.toNatClampNeg i ∧ mf_absentFrom = upd mf_absentFrom mv_rows.toNatClampNeg a ∧ mf_absentTo = upd mf_absentTo mv_rows.toNatClampNeg b) ∨ (¬ ((0 ≤ i.toInt ∧ i.toInt < mv_size.toInt ∧ v_today.toInt ≤ a.toInt ∧ a.toInt ≤ b.toInt ∧ b.toInt ≤ 1094) ∧ mv_rows.toInt < 60) ∧ (-1 : Int32).toInt = -1 ∧ mv_rows = mv_rows ∧ mf_absent = mf_absent ∧ mf_absentFrom = mf_absentFrom ∧ mf_absentTo = mf_absentTo) from by first | (rcases hw_en with ⟨z1, z2⟩ | ⟨z1, z2⟩; exact Or.inl ⟨by omega, z2⟩; exact Or.inr ⟨by omega, z2⟩) | exact Or.inr ⟨by omega, by omega, rfl, rfl, rfl, rfl⟩) rfl (hP.sub [0, 1, 2, 3, 4] rfl) (hD.sub [0, 1, 2, 3, 4] (by decide +kernel) rfl) hS dX11_away_53
        · exact absurd c_8 (by decide)
      · have tc_7 := t_neq c_7
        refine lv_iconst (v := 1) hx hb dX11_away_27 (by decide) ?_
        refine lv_goto (tgt := 32) hx hb dX11_away_28 (by decide) ?_
        refine lv_istore (lv' := [(4, .int 1), (0, .ref h), (1, .int i), (2, .int a), (3, .int b)]) hx hb dX11_away_32 hl (by decide) rfl (fun ls hl => ?_)
        refine lv_iload hx hb dX11_away_34 (lv_at hl 0 rfl) ?_
        refine lv_if_eq (tgt := 52) hx hb dX11_away_36 (by decide) (fun c_9 => ?_) (fun c_9 => ?_)
        · exact absurd c_9 (by decide)
        · have tc_9 := t_neq c_9
          refine lv_aload_n hx hb dX11_away_39 rfl (lv_at hl 1 rfl) ?_
          refine va_get (D := D) (ci := 10) (v := .ref a_monks) (C := RX11) (T := TX11) (N := 15) hx hb hts in_E_away_X11 hown hK.1 hP 0 rfl rfl 5 (by decide) lk0 (fun _ h9 => h9) rfl dX11_away_40 ?_
          refine lv_iload_n hx hb dX11_away_43 rfl (lv_at hl 2 rfl) ?_
          refine lv_iload_n hx hb dX11_away_44 rfl (lv_at hl 3 rfl) ?_
          refine lv_iload_n hx hb dX11_away_45 rfl (lv_at hl 4 rfl) ?_
          have hPc := hP.sub (ws' := [(a_monks, .inr (5, [.ref ma_priests, .ref ma_barred, .ref ma_cameOn, .ref ma_absent, .ref ma_absentFrom, .ref ma_absentTo, .int mv_size, .int mv_rows])), (ma_absent, .inl (cI, 60, .inl mf_absent)), (ma_absentFrom, .inl (cI, 60, .inl mf_absentFrom)), (ma_absentTo, .inl (cI, 60, .inl mf_absentTo))]) [1, 2, 3, 4] rfl
          refine rwV (As := [.int i, .int a, .int b]) (rest := []) (wc := [(a_monks, .inr (5, [.ref ma_priests, .ref ma_barred, .ref ma_cameOn, .ref ma_absent, .ref ma_absentFrom, .ref ma_absentTo, .int mv_size, .int mv_rows])), (ma_absent, .inl (cI, 60, .inl mf_absent)), (ma_absentFrom, .inl (cI, 60, .inl mf_absentFrom)), (ma_absentTo, .inl (cI, 60, .inl mf_absentTo))]) (wr := [(h, .inr (10, [.ref a_bells, .ref a_feasts, .ref a_tape, .ref a_reader, .ref a_rules, .ref a_monks, .ref a_duties, .ref a_gifts, .ref a_figures, .int v_today, .int v_stock, .int v_guestHeads, .int v_guestRanks, .int v_faultPlace, .int v_candlesInAll]))]) S (e_tell  (by omega) (by omega)) (cwV 3 hts gX11_away_X5_tellAbsence rfl rfl rfl ⟨rfl, hd_X5_tellAbsence⟩ ⟨Nat.le_of_ble_eq_true rfl, Nat.le_of_ble_eq_true rfl⟩) hK hP hD hS hA [1, 2, 3, 4] [0] rfl rfl (by decide +kernel) (by decide +kernel) (by decide +kernel) (va_recv hK.1 hPc (ci := 5) (q0 := 0) rfl rfl) rfl hl.1 rfl (Nat.le_of_ble_eq_true rfl) dX11_away_46 ⟨Nat.le_of_ble_eq_true rfl, Nat.le_of_ble_eq_true rfl⟩ (fun r_en u_en H locs hw_en hP hD hS => ?_)
          obtain ⟨n1_en, f1_en, f2_en, f3_en⟩ := u_en
          have hw_en : ((mv_rows.toInt < 60) ∧ r_en.toInt = mv_rows.toInt + 1 ∧ n1_en = mv_rows + 1 ∧ f1_en = upd mf_absent mv_rows.toNatClampNeg i ∧ f2_en = upd mf_absentFrom mv_rows.toNatClampNeg a ∧ f3_en = upd mf_absentTo mv_rows.toNatClampNeg b) ∨ (¬ (mv_rows.toInt < 60) ∧ r_en.toInt = -1 ∧ n1_en = mv_rows ∧ f1_en = mf_absent ∧ f2_en = mf_absentFrom ∧ f3_en = mf_absentTo) := hw_en
          have hP : va_P D vwCl [(h, .inr (10, [.ref a_bells, .ref a_feasts, .ref a_tape, .ref a_reader, .ref a_rules, .ref a_monks, .ref a_duties, .ref a_gifts, .ref a_figures, .int v_today, .int v_stock, .int v_guestHeads, .int v_guestRanks, .int v_faultPlace, .int v_candlesInAll])), (a_monks, .inr (5, [.ref ma_priests, .ref ma_barred, .ref ma_cameOn, .ref ma_absent, .ref ma_absentFrom, .ref ma_absentTo, .int mv_size, .int n1_en])), (ma_absent, .inl (cI, 60, .inl f1_en)), (ma_absentFrom, .inl (cI, 60, .inl f2_en)), (ma_absentTo, .inl (cI, 60, .inl f3_en))] H := hP
          have hD : va_D A [(h, .inr (10, [.ref a_bells, .ref a_feasts, .ref a_tape, .ref a_reader, .ref a_rules, .ref a_monks, .ref a_duties, .ref a_gifts, .ref a_figures, .int v_today, .int v_stock, .int v_guestHeads, .int v_guestRanks, .int v_faultPlace, .int v_candlesInAll])), (a_monks, .inr (5, [.ref ma_priests, .ref ma_barred, .ref ma_cameOn, .ref ma_absent, .ref ma_absentFrom, .ref ma_absentTo, .int mv_size, .int n1_en])), (ma_absent, .inl (cI, 60, .inl f1_en)), (ma_absentFrom, .inl (cI, 60, .inl f2_en)), (ma_absentTo, .inl (cI, 60, .inl f3_en))] := hD
          refine lv_goto (tgt := 53) hx hb dX11_away_49 (by decide) ?_
          exact hret r_en (n1_en, f1_en, f2_en, f3_en) _ _ _ _ (show (((0 ≤ i.toInt ∧ i.toInt < mv_size.toInt ∧ v_today.toInt ≤ a.toInt ∧ a.toInt ≤ b.toInt ∧ b.toInt ≤ 1094) ∧ mv_rows.toInt < 60) ∧ r_en.toInt = mv_rows.toInt + 1 ∧ n1_en = mv_rows + 1 ∧ f1_en = upd mf_absent mv_rows.toNatClampNeg i ∧ f2_en = upd mf_absentFrom mv_rows.toNatClampNeg a ∧ f3_en = upd mf_absentTo mv_rows.toNatClampNeg b) ∨ (¬ ((0 ≤ i.toInt ∧ i.toInt < mv_size.toInt ∧ v_today.toInt ≤ a.toInt ∧ a.toInt ≤ b.toInt ∧ b.toInt ≤ 1094) ∧ mv_rows.toInt < 60) ∧ r_en.toInt = -1 ∧ n1_en = mv_rows ∧ f1_en = mf_absent ∧ f2_en = mf_absentFrom ∧ f3_en = mf_absentTo) from by first | (rcases hw_en with ⟨z1, z2⟩ | ⟨z1, z2⟩; exact Or.inl ⟨by omega, z2⟩; exact Or.inr ⟨by omega, z2⟩) | exact Or.inr ⟨by omega, by omega, rfl, rfl, rfl, rfl⟩) rfl (hP.sub [0, 1, 2, 3, 4] rfl) (hD.sub [0, 1, 2, 3, 4] (by decide +kernel) rfl) hS dX11_away_53

theorem in_M_away_X12 : ∀ w ∈ wsX120, w ∈ wsX12_away := tl_X12_away_X12
set_option maxHeartbeats 8000000 in
set_option maxRecDepth 100000 in
theorem M_away {l : Launch} {D : va_G} {cI cZ cB : ClassId} {sz : Nat} {h a_isPriest a_bars a_joined a_turns a_awayMonk a_awayFrom a_awayTo a_feastDay a_rank a_isWeekly a_isDouble a_giftDay a_giftFrom a_owed a_said a_spared a_leaveGift a_leaveFrom a_leaveTo a_lateDay a_lateOffice a_lateBy a_guests a_who a_used a_lacks a_candles a_masses a_owing a_heldOn a_waits a_tape a_text a_statements a_taken a_sort a_first a_second : Nat} {v_today v_monks v_aways v_feasts v_gifts v_leaves v_lates v_store v_allCandles v_taped v_size v_at v_fault v_rules v_wordEnd v_number : Int32} {f_awayMonk f_awayFrom f_awayTo : Nat → Int32} {i a b : Int32} (h0_monks : 0 ≤ v_monks.toInt) (h1_monks : v_monks.toInt ≤ 24) (h0_aways : 0 ≤ v_aways.toInt) (h1_aways : v_aways.toInt ≤ 60) (h0_today : 0 ≤ v_today.toInt) (h1_today : v_today.toInt ≤ 1094) : Met l yX12_away wsX12_away ({ frames := 2, cells := 0, slots := 0, locals := 43 }) (RW D cI cZ cB [.ref h, .int i, .int a, .int b] sz [(h, .inr (11, [.int v_today, .int v_monks, .int v_aways, .int v_feasts, .int v_gifts, .int v_leaves, .int v_lates, .int v_store, .int v_allCandles, .ref a_isPriest, .ref a_bars, .ref a_joined, .ref a_turns, .ref a_awayMonk, .ref a_awayFrom, .ref a_awayTo, .ref a_feastDay, .ref a_rank, .ref a_isWeekly, .ref a_isDouble, .ref a_giftDay, .ref a_giftFrom, .ref a_owed, .ref a_said, .ref a_spared, .ref a_leaveGift, .ref a_leaveFrom, .ref a_leaveTo, .ref a_lateDay, .ref a_lateOffice, .ref a_lateBy, .ref a_guests, .ref a_who, .ref a_used, .ref a_lacks, .ref a_candles, .ref a_masses, .ref a_owing, .ref a_heldOn, .ref a_waits, .ref a_tape, .ref a_text, .int v_taped, .int v_size, .int v_at, .int v_fault, .int v_rules, .ref a_statements, .ref a_taken, .ref a_sort, .ref a_first, .ref a_second, .int v_wordEnd, .int v_number])), (a_awayMonk, .inl (cI, 60, .inl f_awayMonk)), (a_awayFrom, .inl (cI, 60, .inl f_awayFrom)), (a_awayTo, .inl (cI, 60, .inl f_awayTo))]) (va_Qi (fun (r : Int32) (u : Int32 × (Nat → Int32) × (Nat → Int32) × (Nat → Int32)) => (((0 ≤ i.toInt ∧ i.toInt < v_monks.toInt ∧ v_today.toInt ≤ a.toInt ∧ a.toInt ≤ b.toInt ∧ b.toInt ≤ 1094) ∧ v_aways.toInt < 60) ∧ r.toInt = v_aways.toInt + 1 ∧ u.1 = v_aways + 1 ∧ u.2.1 = upd f_awayMonk v_aways.toNatClampNeg i ∧ u.2.2.1 = upd f_awayFrom v_aways.toNatClampNeg a ∧ u.2.2.2 = upd f_awayTo v_aways.toNatClampNeg b) ∨ (¬ ((0 ≤ i.toInt ∧ i.toInt < v_monks.toInt ∧ v_today.toInt ≤ a.toInt ∧ a.toInt ≤ b.toInt ∧ b.toInt ≤ 1094) ∧ v_aways.toInt < 60) ∧ r.toInt = -1 ∧ u.1 = v_aways ∧ u.2.1 = f_awayMonk ∧ u.2.2.1 = f_awayFrom ∧ u.2.2.2 = f_awayTo)) (BW D [(h, .inr (11, [.int v_today, .int v_monks, .int v_aways, .int v_feasts, .int v_gifts, .int v_leaves, .int v_lates, .int v_store, .int v_allCandles, .ref a_isPriest, .ref a_bars, .ref a_joined, .ref a_turns, .ref a_awayMonk, .ref a_awayFrom, .ref a_awayTo, .ref a_feastDay, .ref a_rank, .ref a_isWeekly, .ref a_isDouble, .ref a_giftDay, .ref a_giftFrom, .ref a_owed, .ref a_said, .ref a_spared, .ref a_leaveGift, .ref a_leaveFrom, .ref a_leaveTo, .ref a_lateDay, .ref a_lateOffice, .ref a_lateBy, .ref a_guests, .ref a_who, .ref a_used, .ref a_lacks, .ref a_candles, .ref a_masses, .ref a_owing, .ref a_heldOn, .ref a_waits, .ref a_tape, .ref a_text, .int v_taped, .int v_size, .int v_at, .int v_fault, .int v_rules, .ref a_statements, .ref a_taken, .ref a_sort, .ref a_first, .ref a_second, .int v_wordEnd, .int v_number])), (a_awayMonk, .inl (cI, 60, .inl f_awayMonk)), (a_awayFrom, .inl (cI, 60, .inl f_awayFrom)), (a_awayTo, .inl (cI, 60, .inl f_awayTo))] sz (fun u : Int32 × (Nat → Int32) × (Nat → Int32) × (Nat → Int32) => [(h, .inr (11, [.int v_today, .int v_monks, .int u.1, .int v_feasts, .int v_gifts, .int v_leaves, .int v_lates, .int v_store, .int v_allCandles, .ref a_isPriest, .ref a_bars, .ref a_joined, .ref a_turns, .ref a_awayMonk, .ref a_awayFrom, .ref a_awayTo, .ref a_feastDay, .ref a_rank, .ref a_isWeekly, .ref a_isDouble, .ref a_giftDay, .ref a_giftFrom, .ref a_owed, .ref a_said, .ref a_spared, .ref a_leaveGift, .ref a_leaveFrom, .ref a_leaveTo, .ref a_lateDay, .ref a_lateOffice, .ref a_lateBy, .ref a_guests, .ref a_who, .ref a_used, .ref a_lacks, .ref a_candles, .ref a_masses, .ref a_owing, .ref a_heldOn, .ref a_waits, .ref a_tape, .ref a_text, .int v_taped, .int v_size, .int v_at, .int v_fault, .int v_rules, .ref a_statements, .ref a_taken, .ref a_sort, .ref a_first, .ref a_second, .int v_wordEnd, .int v_number])), (a_awayMonk, .inl (cI, 60, .inl u.2.1)), (a_awayFrom, .inl (cI, 60, .inl u.2.2.1)), (a_awayTo, .inl (cI, 60, .inl u.2.2.2))])) (va_A [(h, .inr (11, [.int v_today, .int v_monks, .int v_aways, .int v_feasts, .int v_gifts, .int v_leaves, .int v_lates, .int v_store, .int v_allCandles, .ref a_isPriest, .ref a_bars, .ref a_joined, .ref a_turns, .ref a_awayMonk, .ref a_awayFrom, .ref a_awayTo, .ref a_feastDay, .ref a_rank, .ref a_isWeekly, .ref a_isDouble, .ref a_giftDay, .ref a_giftFrom, .ref a_owed, .ref a_said, .ref a_spared, .ref a_leaveGift, .ref a_leaveFrom, .ref a_leaveTo, .ref a_lateDay, .ref a_lateOffice, .ref a_lateBy, .ref a_guests, .ref a_who, .ref a_used, .ref a_lacks, .ref a_candles, .ref a_masses, .ref a_owing, .ref a_heldOn, .ref a_waits, .ref a_tape, .ref a_text, .int v_taped, .int v_size, .int v_at, .int v_fault, .int v_rules, .ref a_statements, .ref a_taken, .ref a_sort, .ref a_first, .ref a_second, .int v_wordEnd, .int v_number])), (a_awayMonk, .inl (cI, 60, .inl f_awayMonk)), (a_awayFrom, .inl (cI, 60, .inl f_awayFrom)), (a_awayTo, .inl (cI, 60, .inl f_awayTo))] sz)) 0 (0) (va_A [(h, .inr (11, [.int v_today, .int v_monks, .int v_aways, .int v_feasts, .int v_gifts, .int v_leaves, .int v_lates, .int v_store, .int v_allCandles, .ref a_isPriest, .ref a_bars, .ref a_joined, .ref a_turns, .ref a_awayMonk, .ref a_awayFrom, .ref a_awayTo, .ref a_feastDay, .ref a_rank, .ref a_isWeekly, .ref a_isDouble, .ref a_giftDay, .ref a_giftFrom, .ref a_owed, .ref a_said, .ref a_spared, .ref a_leaveGift, .ref a_leaveFrom, .ref a_leaveTo, .ref a_lateDay, .ref a_lateOffice, .ref a_lateBy, .ref a_guests, .ref a_who, .ref a_used, .ref a_lacks, .ref a_candles, .ref a_masses, .ref a_owing, .ref a_heldOn, .ref a_waits, .ref a_tape, .ref a_text, .int v_taped, .int v_size, .int v_at, .int v_fault, .int v_rules, .ref a_statements, .ref a_taken, .ref a_sort, .ref a_first, .ref a_second, .int v_wordEnd, .int v_number])), (a_awayMonk, .inl (cI, 60, .inl f_awayMonk)), (a_awayFrom, .inl (cI, 60, .inl f_awayFrom)), (a_awayTo, .inl (cI, 60, .inl f_awayTo))] sz) := by
  refine rw_ret (cc := cX12_away) (maxL := 4) (ty := .int) (own := RX12) (by decide) rfl rfl (Nat.le_of_ble_eq_true rfl) ?_
  intro p e s m args below meth c Q A S hin hret hP hK hD hA hS ls hl
  obtain ⟨hx, hb, hml, hown, hts⟩ := id S
  have hl : lv_has ls 4 [(0, .ref h), (1, .int i), (2, .int a), (3, .int b)] := hl
  have kkm1 : (-1 : Int32).toInt = -1 := by decide
  have kk0 : (0 : Int32).toInt = 0 := by decide
  have kk1 : (1 : Int32).toInt = 1 := by decide
  have kk60 : (60 : Int32).toInt = 60 := by decide
  have lk0 := hts (.fieldLink RX12 140 "AbbeyHoursModel" "today" "I") (List.mem_cons_of_mem _ (List.mem_append_left _ (List.mem_of_getElem? (i := 0) rfl)))
  have lk1 := hts (.fieldLink RX12 150 "AbbeyHoursModel" "aways" "I") (List.mem_cons_of_mem _ (List.mem_append_left _ (List.mem_of_getElem? (i := 1) rfl)))
  have lk2 := hts (.fieldLink RX12 23 "AbbeyHoursModel" "awayMonk" "[I") (List.mem_cons_of_mem _ (List.mem_append_left _ (List.mem_of_getElem? (i := 2) rfl)))
  have lk3 := hts (.fieldLink RX12 26 "AbbeyHoursModel" "awayFrom" "[I") (List.mem_cons_of_mem _ (List.mem_append_left _ (List.mem_of_getElem? (i := 3) rfl)))
  have lk4 := hts (.fieldLink RX12 29 "AbbeyHoursModel" "awayTo" "[I") (List.mem_cons_of_mem _ (List.mem_append_left _ (List.mem_of_getElem? (i := 4) rfl)))
  refine lv_aload_n hx hb dX12_away_0 rfl (lv_at hl 0 rfl) ?_
  refine lv_iload_n hx hb dX12_away_1 rfl (lv_at hl 1 rfl) ?_
  have hPc := hP.sub (ws' := [(h, .inr (11, [.int v_today, .int v_monks, .int v_aways, .int v_feasts, .int v_gifts, .int v_leaves, .int v_lates, .int v_store, .int v_allCandles, .ref a_isPriest, .ref a_bars, .ref a_joined, .ref a_turns, .ref a_awayMonk, .ref a_awayFrom, .ref a_awayTo, .ref a_feastDay, .ref a_rank, .ref a_isWeekly, .ref a_isDouble, .ref a_giftDay, .ref a_giftFrom, .ref a_owed, .ref a_said, .ref a_spared, .ref a_leaveGift, .ref a_leaveFrom, .ref a_leaveTo, .ref a_lateDay, .ref a_lateOffice, .ref a_lateBy, .ref a_guests, .ref a_who, .ref a_used, .ref a_lacks, .ref a_candles, .ref a_masses, .ref a_owing, .ref a_heldOn, .ref a_waits, .ref a_tape, .ref a_text, .int v_taped, .int v_size, .int v_at, .int v_fault, .int v_rules, .ref a_statements, .ref a_taken, .ref a_sort, .ref a_first, .ref a_second, .int v_wordEnd, .int v_number]))]) [0] rfl
  refine roV (As := [.int i]) (rest := []) S (n_isMonk  (by omega) (by omega)) (cwV 1 hts gX12_away_X12_isMonk rfl rfl rfl ⟨rfl, hd_X12_isMonk⟩ ⟨Nat.le_of_ble_eq_true rfl, Nat.le_of_ble_eq_true rfl⟩) hK hPc (va_recv hK.1 hPc (ci := 11) (q0 := 0) rfl rfl) rfl hl.1 rfl (Nat.le_of_ble_eq_true rfl) dX12_away_2 ⟨Nat.le_of_ble_eq_true rfl, Nat.le_of_ble_eq_true rfl⟩ (fun r_1 hw_1 => ?_)
  have hw_1 : (r_1.toInt = 1 ∧ 0 ≤ i.toInt ∧ i.toInt < v_monks.toInt) ∨ (r_1.toInt = 0 ∧ (i.toInt < 0 ∨ v_monks.toInt ≤ i.toInt)) := hw_1
  refine lv_if_eq (tgt := 37) hx hb dX12_away_5 (by decide) (fun c_2 => ?_) (fun c_2 => ?_)
  · have tc_2 := t_eq c_2
    refine lv_iconst (v := (-1)) hx hb dX12_away_37 (by decide) ?_
    exact hret (-1) (v_aways, f_awayMonk, f_awayFrom, f_awayTo) _ _ _ _ (show (((0 ≤ i.toInt ∧ i.toInt < v_monks.toInt ∧ v_today.toInt ≤ a.toInt ∧ a.toInt ≤ b.toInt ∧ b.toInt ≤ 1094) ∧ v_aways.toInt < 60) ∧ (-1 : Int32).toInt = v_aways.toInt + 1 ∧ v_aways = v_aways + 1 ∧ f_awayMonk = upd f_awayMonk v_aways.toNatClampNeg i ∧ f_awayFrom = upd f_awayFrom v_aways.toNatClampNeg a ∧ f_awayTo = upd f_awayTo v_aways.toNatClampNeg b) ∨ (¬ ((0 ≤ i.toInt ∧ i.toInt < v_monks.toInt ∧ v_today.toInt ≤ a.toInt ∧ a.toInt ≤ b.toInt ∧ b.toInt ≤ 1094) ∧ v_aways.toInt < 60) ∧ (-1 : Int32).toInt = -1 ∧ v_aways = v_aways ∧ f_awayMonk = f_awayMonk ∧ f_awayFrom = f_awayFrom ∧ f_awayTo = f_awayTo) from by first | exact Or.inl ⟨by omega, by omega, enn, ega_, egb_, egc_⟩ | exact Or.inr ⟨by omega, by omega, rfl, rfl, rfl, rfl⟩) rfl (hP.sub [0, 1, 2, 3] rfl) (hD.sub [0, 1, 2, 3] (by decide +kernel) rfl) hS dX12_away_38
  · have tc_2 := t_neq c_2
    refine lv_iload_n hx hb dX12_away_8 rfl (lv_at hl 2 rfl) ?_
    refine lv_aload_n hx hb dX12_away_9 rfl (lv_at hl 0 rfl) ?_
    refine va_get (D := D) (ci := 11) (v := .int v_today) (C := RX12) (T := TX12) (N := 54) hx hb hts in_M_away_X12 hown hK.1 hP 0 rfl rfl 0 (by decide) lk0 (fun _ h9 => h9) rfl dX12_away_10 ?_
    refine lv_icmp_lt (tgt := 37) hx hb dX12_away_13 (by decide) (fun c_3 => ?_) (fun c_3 => ?_)
    · have tc_3 := t_lt c_3
      refine lv_iconst (v := (-1)) hx hb dX12_away_37 (by decide) ?_
      exact hret (-1) (v_aways, f_awayMonk, f_awayFrom, f_awayTo) _ _ _ _ (show (((0 ≤ i.toInt ∧ i.toInt < v_monks.toInt ∧ v_today.toInt ≤ a.toInt ∧ a.toInt ≤ b.toInt ∧ b.toInt ≤ 1094) ∧ v_aways.toInt < 60) ∧ (-1 : Int32).toInt = v_aways.toInt + 1 ∧ v_aways = v_aways + 1 ∧ f_awayMonk = upd f_awayMonk v_aways.toNatClampNeg i ∧ f_awayFrom = upd f_awayFrom v_aways.toNatClampNeg a ∧ f_awayTo = upd f_awayTo v_aways.toNatClampNeg b) ∨ (¬ ((0 ≤ i.toInt ∧ i.toInt < v_monks.toInt ∧ v_today.toInt ≤ a.toInt ∧ a.toInt ≤ b.toInt ∧ b.toInt ≤ 1094) ∧ v_aways.toInt < 60) ∧ (-1 : Int32).toInt = -1 ∧ v_aways = v_aways ∧ f_awayMonk = f_awayMonk ∧ f_awayFrom = f_awayFrom ∧ f_awayTo = f_awayTo) from by first | exact Or.inl ⟨by omega, by omega, enn, ega_, egb_, egc_⟩ | exact Or.inr ⟨by omega, by omega, rfl, rfl, rfl, rfl⟩) rfl (hP.sub [0, 1, 2, 3] rfl) (hD.sub [0, 1, 2, 3] (by decide +kernel) rfl) hS dX12_away_38
    · have tc_3 := t_nlt c_3
      refine lv_iload_n hx hb dX12_away_16 rfl (lv_at hl 2 rfl) ?_
      refine lv_iload_n hx hb dX12_away_17 rfl (lv_at hl 3 rfl) ?_
      refine lv_icmp_gt (tgt := 37) hx hb dX12_away_18 (by decide) (fun c_4 => ?_) (fun c_4 => ?_)
      · have tc_4 := t_lt c_4
        refine lv_iconst (v := (-1)) hx hb dX12_away_37 (by decide) ?_
        exact hret (-1) (v_aways, f_awayMonk, f_awayFrom, f_awayTo) _ _ _ _ (show (((0 ≤ i.toInt ∧ i.toInt < v_monks.toInt ∧ v_today.toInt ≤ a.toInt ∧ a.toInt ≤ b.toInt ∧ b.toInt ≤ 1094) ∧ v_aways.toInt < 60) ∧ (-1 : Int32).toInt = v_aways.toInt + 1 ∧ v_aways = v_aways + 1 ∧ f_awayMonk = upd f_awayMonk v_aways.toNatClampNeg i ∧ f_awayFrom = upd f_awayFrom v_aways.toNatClampNeg a ∧ f_awayTo = upd f_awayTo v_aways.toNatClampNeg b) ∨ (¬ ((0 ≤ i.toInt ∧ i.toInt < v_monks.toInt ∧ v_today.toInt ≤ a.toInt ∧ a.toInt ≤ b.toInt ∧ b.toInt ≤ 1094) ∧ v_aways.toInt < 60) ∧ (-1 : Int32).toInt = -1 ∧ v_aways = v_aways ∧ f_awayMonk = f_awayMonk ∧ f_awayFrom = f_awayFrom ∧ f_awayTo = f_awayTo) from by first | exact Or.inl ⟨by omega, by omega, enn, ega_, egb_, egc_⟩ | exact Or.inr ⟨by omega, by omega, rfl, rfl, rfl, rfl⟩) rfl (hP.sub [0, 1, 2, 3] rfl) (hD.sub [0, 1, 2, 3] (by decide +kernel) rfl) hS dX12_away_38
      · have tc_4 := t_nlt c_4
        refine lv_iload_n hx hb dX12_away_21 rfl (lv_at hl 3 rfl) ?_
        have hPc := hP.sub (ws' := []) [] rfl
        refine roS (As := [.int b]) (rest := []) S (m_isDay  ) (va_cwS 1 hts gX12_away_X12_isDay rfl rfl rfl hd_X12_isDay ⟨Nat.le_of_ble_eq_true rfl, Nat.le_of_ble_eq_true rfl⟩) hK hPc rfl hl.1 rfl (Nat.le_of_ble_eq_true rfl) dX12_away_22 ⟨Nat.le_of_ble_eq_true rfl, Nat.le_of_ble_eq_true rfl⟩ (fun r_5 hw_5 => ?_)
        have hw_5 : (r_5.toInt = 1 ∧ 0 ≤ b.toInt ∧ b.toInt ≤ 1094) ∨ (r_5.toInt = 0 ∧ (b.toInt < 0 ∨ 1094 < b.toInt)) := hw_5
        refine lv_if_eq (tgt := 37) hx hb dX12_away_25 (by decide) (fun c_6 => ?_) (fun c_6 => ?_)
        · have tc_6 := t_eq c_6
          refine lv_iconst (v := (-1)) hx hb dX12_away_37 (by decide) ?_
          exact hret (-1) (v_aways, f_awayMonk, f_awayFrom, f_awayTo) _ _ _ _ (show (((0 ≤ i.toInt ∧ i.toInt < v_monks.toInt ∧ v_today.toInt ≤ a.toInt ∧ a.toInt ≤ b.toInt ∧ b.toInt ≤ 1094) ∧ v_aways.toInt < 60) ∧ (-1 : Int32).toInt = v_aways.toInt + 1 ∧ v_aways = v_aways + 1 ∧ f_awayMonk = upd f_awayMonk v_aways.toNatClampNeg i ∧ f_awayFrom = upd f_awayFrom v_aways.toNatClampNeg a ∧ f_awayTo = upd f_awayTo v_aways.toNatClampNeg b) ∨ (¬ ((0 ≤ i.toInt ∧ i.toInt < v_monks.toInt ∧ v_today.toInt ≤ a.toInt ∧ a.toInt ≤ b.toInt ∧ b.toInt ≤ 1094) ∧ v_aways.toInt < 60) ∧ (-1 : Int32).toInt = -1 ∧ v_aways = v_aways ∧ f_awayMonk = f_awayMonk ∧ f_awayFrom = f_awayFrom ∧ f_awayTo = f_awayTo) from by first | exact Or.inl ⟨by omega, by omega, enn, ega_, egb_, egc_⟩ | exact Or.inr ⟨by omega, by omega, rfl, rfl, rfl, rfl⟩) rfl (hP.sub [0, 1, 2, 3] rfl) (hD.sub [0, 1, 2, 3] (by decide +kernel) rfl) hS dX12_away_38
        · have tc_6 := t_neq c_6
          refine lv_aload_n hx hb dX12_away_28 rfl (lv_at hl 0 rfl) ?_
          refine va_get (D := D) (ci := 11) (v := .int v_aways) (C := RX12) (T := TX12) (N := 54) hx hb hts in_M_away_X12 hown hK.1 hP 0 rfl rfl 2 (by decide) lk1 (fun _ h9 => h9) rfl dX12_away_29 ?_
          refine lv_bipush (v := 60) hx hb dX12_away_32 (by decide) ?_
          refine lv_icmp_ne (tgt := 39) hx hb dX12_away_34 (by decide) (fun c_7 => ?_) (fun c_7 => ?_)
          · have tc_7 := t_neq c_7
            refine lv_aload_n hx hb dX12_away_39 rfl (lv_at hl 0 rfl) ?_
            refine va_get (D := D) (ci := 11) (v := .ref a_awayMonk) (C := RX12) (T := TX12) (N := 54) hx hb hts in_M_away_X12 hown hK.1 hP 0 rfl rfl 13 (by decide) lk2 (fun _ h9 => h9) rfl dX12_away_40 ?_
            refine lv_aload_n hx hb dX12_away_43 rfl (lv_at hl 0 rfl) ?_
            refine va_get (D := D) (ci := 11) (v := .int v_aways) (C := RX12) (T := TX12) (N := 54) hx hb hts in_M_away_X12 hown hK.1 hP 0 rfl rfl 2 (by decide) lk1 (fun _ h9 => h9) rfl dX12_away_44 ?_
            refine lv_iload_n hx hb dX12_away_47 rfl (lv_at hl 1 rfl) ?_
            refine va_iast hx hb hK.1 hP hD hS 1 0 rfl rfl (t_in (by omega) (by omega)) dX12_away_48 (fun H locs hP hD hS => ?_)
            obtain ⟨ga_, ega_⟩ : ∃ z : Nat → Int32, z = upd f_awayMonk ((v_aways : Int32).toNatClampNeg) i := ⟨_, rfl⟩
            rw [← ega_] at hP hD
            have hP : va_P D vwCl [(h, .inr (11, [.int v_today, .int v_monks, .int v_aways, .int v_feasts, .int v_gifts, .int v_leaves, .int v_lates, .int v_store, .int v_allCandles, .ref a_isPriest, .ref a_bars, .ref a_joined, .ref a_turns, .ref a_awayMonk, .ref a_awayFrom, .ref a_awayTo, .ref a_feastDay, .ref a_rank, .ref a_isWeekly, .ref a_isDouble, .ref a_giftDay, .ref a_giftFrom, .ref a_owed, .ref a_said, .ref a_spared, .ref a_leaveGift, .ref a_leaveFrom, .ref a_leaveTo, .ref a_lateDay, .ref a_lateOffice, .ref a_lateBy, .ref a_guests, .ref a_who, .ref a_used, .ref a_lacks, .ref a_candles, .ref a_masses, .ref a_owing, .ref a_heldOn, .ref a_waits, .ref a_tape, .ref a_text, .int v_taped, .int v_size, .int v_at, .int v_fault, .int v_rules, .ref a_statements, .ref a_taken, .ref a_sort, .ref a_first, .ref a_second, .int v_wordEnd, .int v_number])), (a_awayMonk, .inl (cI, 60, .inl ga_)), (a_awayFrom, .inl (cI, 60, .inl f_awayFrom)), (a_awayTo, .inl (cI, 60, .inl f_awayTo))] H := hP
            have hD : va_D A [(h, .inr (11, [.int v_today, .int v_monks, .int v_aways, .int v_feasts, .int v_gifts, .int v_leaves, .int v_lates, .int v_store, .int v_allCandles, .ref a_isPriest, .ref a_bars, .ref a_joined, .ref a_turns, .ref a_awayMonk, .ref a_awayFrom, .ref a_awayTo, .ref a_feastDay, .ref a_rank, .ref a_isWeekly, .ref a_isDouble, .ref a_giftDay, .ref a_giftFrom, .ref a_owed, .ref a_said, .ref a_spared, .ref a_leaveGift, .ref a_leaveFrom, .ref a_leaveTo, .ref a_lateDay, .ref a_lateOffice, .ref a_lateBy, .ref a_guests, .ref a_who, .ref a_used, .ref a_lacks, .ref a_candles, .ref a_masses, .ref a_owing, .ref a_heldOn, .ref a_waits, .ref a_tape, .ref a_text, .int v_taped, .int v_size, .int v_at, .int v_fault, .int v_rules, .ref a_statements, .ref a_taken, .ref a_sort, .ref a_first, .ref a_second, .int v_wordEnd, .int v_number])), (a_awayMonk, .inl (cI, 60, .inl ga_)), (a_awayFrom, .inl (cI, 60, .inl f_awayFrom)), (a_awayTo, .inl (cI, 60, .inl f_awayTo))] := hD
            refine lv_aload_n hx hb dX12_away_49 rfl (lv_at hl 0 rfl) ?_
            refine va_get (D := D) (ci := 11) (v := .ref a_awayFrom) (C := RX12) (T := TX12) (N := 54) hx hb hts in_M_away_X12 hown hK.1 hP 0 rfl rfl 14 (by decide) lk3 (fun _ h9 => h9) rfl dX12_away_50 ?_
            refine lv_aload_n hx hb dX12_away_53 rfl (lv_at hl 0 rfl) ?_
            refine va_get (D := D) (ci := 11) (v := .int v_aways) (C := RX12) (T := TX12) (N := 54) hx hb hts in_M_away_X12 hown hK.1 hP 0 rfl rfl 2 (by decide) lk1 (fun _ h9 => h9) rfl dX12_away_54 ?_
            refine lv_iload_n hx hb dX12_away_57 rfl (lv_at hl 2 rfl) ?_
            refine va_iast hx hb hK.1 hP hD hS 2 0 rfl rfl (t_in (by omega) (by omega)) dX12_away_58 (fun H locs hP hD hS => ?_)
            obtain ⟨gb_, egb_⟩ : ∃ z : Nat → Int32, z = upd f_awayFrom ((v_aways : Int32).toNatClampNeg) a := ⟨_, rfl⟩
            rw [← egb_] at hP hD
            have hP : va_P D vwCl [(h, .inr (11, [.int v_today, .int v_monks, .int v_aways, .int v_feasts, .int v_gifts, .int v_leaves, .int v_lates, .int v_store, .int v_allCandles, .ref a_isPriest, .ref a_bars, .ref a_joined, .ref a_turns, .ref a_awayMonk, .ref a_awayFrom, .ref a_awayTo, .ref a_feastDay, .ref a_rank, .ref a_isWeekly, .ref a_isDouble, .ref a_giftDay, .ref a_giftFrom, .ref a_owed, .ref a_said, .ref a_spared, .ref a_leaveGift, .ref a_leaveFrom, .ref a_leaveTo, .ref a_lateDay, .ref a_lateOffice, .ref a_lateBy, .ref a_guests, .ref a_who, .ref a_used, .ref a_lacks, .ref a_candles, .ref a_masses, .ref a_owing, .ref a_heldOn, .ref a_waits, .ref a_tape, .ref a_text, .int v_taped, .int v_size, .int v_at, .int v_fault, .int v_rules, .ref a_statements, .ref a_taken, .ref a_sort, .ref a_first, .ref a_second, .int v_wordEnd, .int v_number])), (a_awayMonk, .inl (cI, 60, .inl ga_)), (a_awayFrom, .inl (cI, 60, .inl gb_)), (a_awayTo, .inl (cI, 60, .inl f_awayTo))] H := hP
            have hD : va_D A [(h, .inr (11, [.int v_today, .int v_monks, .int v_aways, .int v_feasts, .int v_gifts, .int v_leaves, .int v_lates, .int v_store, .int v_allCandles, .ref a_isPriest, .ref a_bars, .ref a_joined, .ref a_turns, .ref a_awayMonk, .ref a_awayFrom, .ref a_awayTo, .ref a_feastDay, .ref a_rank, .ref a_isWeekly, .ref a_isDouble, .ref a_giftDay, .ref a_giftFrom, .ref a_owed, .ref a_said, .ref a_spared, .ref a_leaveGift, .ref a_leaveFrom, .ref a_leaveTo, .ref a_lateDay, .ref a_lateOffice, .ref a_lateBy, .ref a_guests, .ref a_who, .ref a_used, .ref a_lacks, .ref a_candles, .ref a_masses, .ref a_owing, .ref a_heldOn, .ref a_waits, .ref a_tape, .ref a_text, .int v_taped, .int v_size, .int v_at, .int v_fault, .int v_rules, .ref a_statements, .ref a_taken, .ref a_sort, .ref a_first, .ref a_second, .int v_wordEnd, .int v_number])), (a_awayMonk, .inl (cI, 60, .inl ga_)), (a_awayFrom, .inl (cI, 60, .inl gb_)), (a_awayTo, .inl (cI, 60, .inl f_awayTo))] := hD
            refine lv_aload_n hx hb dX12_away_59 rfl (lv_at hl 0 rfl) ?_
            refine va_get (D := D) (ci := 11) (v := .ref a_awayTo) (C := RX12) (T := TX12) (N := 54) hx hb hts in_M_away_X12 hown hK.1 hP 0 rfl rfl 15 (by decide) lk4 (fun _ h9 => h9) rfl dX12_away_60 ?_
            refine lv_aload_n hx hb dX12_away_63 rfl (lv_at hl 0 rfl) ?_
            refine va_get (D := D) (ci := 11) (v := .int v_aways) (C := RX12) (T := TX12) (N := 54) hx hb hts in_M_away_X12 hown hK.1 hP 0 rfl rfl 2 (by decide) lk1 (fun _ h9 => h9) rfl dX12_away_64 ?_
            refine lv_iload_n hx hb dX12_away_67 rfl (lv_at hl 3 rfl) ?_
            refine va_iast hx hb hK.1 hP hD hS 3 0 rfl rfl (t_in (by omega) (by omega)) dX12_away_68 (fun H locs hP hD hS => ?_)
            obtain ⟨gc_, egc_⟩ : ∃ z : Nat → Int32, z = upd f_awayTo ((v_aways : Int32).toNatClampNeg) b := ⟨_, rfl⟩
            rw [← egc_] at hP hD
            have hP : va_P D vwCl [(h, .inr (11, [.int v_today, .int v_monks, .int v_aways, .int v_feasts, .int v_gifts, .int v_leaves, .int v_lates, .int v_store, .int v_allCandles, .ref a_isPriest, .ref a_bars, .ref a_joined, .ref a_turns, .ref a_awayMonk, .ref a_awayFrom, .ref a_awayTo, .ref a_feastDay, .ref a_rank, .ref a_isWeekly, .ref a_isDouble, .ref a_giftDay, .ref a_giftFrom, .ref a_owed, .ref a_said, .ref a_spared, .ref a_leaveGift, .ref a_leaveFrom, .ref a_leaveTo, .ref a_lateDay, .ref a_lateOffice, .ref a_lateBy, .ref a_guests, .ref a_who, .ref a_used, .ref a_lacks, .ref a_candles, .ref a_masses, .ref a_owing, .ref a_heldOn, .ref a_waits, .ref a_tape, .ref a_text, .int v_taped, .int v_size, .int v_at, .int v_fault, .int v_rules, .ref a_statements, .ref a_taken, .ref a_sort, .ref a_first, .ref a_second, .int v_wordEnd, .int v_number])), (a_awayMonk, .inl (cI, 60, .inl ga_)), (a_awayFrom, .inl (cI, 60, .inl gb_)), (a_awayTo, .inl (cI, 60, .inl gc_))] H := hP
            have hD : va_D A [(h, .inr (11, [.int v_today, .int v_monks, .int v_aways, .int v_feasts, .int v_gifts, .int v_leaves, .int v_lates, .int v_store, .int v_allCandles, .ref a_isPriest, .ref a_bars, .ref a_joined, .ref a_turns, .ref a_awayMonk, .ref a_awayFrom, .ref a_awayTo, .ref a_feastDay, .ref a_rank, .ref a_isWeekly, .ref a_isDouble, .ref a_giftDay, .ref a_giftFrom, .ref a_owed, .ref a_said, .ref a_spared, .ref a_leaveGift, .ref a_leaveFrom, .ref a_leaveTo, .ref a_lateDay, .ref a_lateOffice, .ref a_lateBy, .ref a_guests, .ref a_who, .ref a_used, .ref a_lacks, .ref a_candles, .ref a_masses, .ref a_owing, .ref a_heldOn, .ref a_waits, .ref a_tape, .ref a_text, .int v_taped, .int v_size, .int v_at, .int v_fault, .int v_rules, .ref a_statements, .ref a_taken, .ref a_sort, .ref a_first, .ref a_second, .int v_wordEnd, .int v_number])), (a_awayMonk, .inl (cI, 60, .inl ga_)), (a_awayFrom, .inl (cI, 60, .inl gb_)), (a_awayTo, .inl (cI, 60, .inl gc_))] := hD
            refine lv_aload_n hx hb dX12_away_69 rfl (lv_at hl 0 rfl) ?_
            refine lv_dup hx hb dX12_away_70 rfl ?_
            refine va_get (D := D) (ci := 11) (v := .int v_aways) (C := RX12) (T := TX12) (N := 54) hx hb hts in_M_away_X12 hown hK.1 hP 0 rfl rfl 2 (by decide) lk1 (fun _ h9 => h9) rfl dX12_away_71 ?_
            refine lv_iconst (v := 1) hx hb dX12_away_74 (by decide) ?_
            refine lv_iadd hx hb dX12_away_75 ?_
            refine lv_topi (fun nn enn => ?_)
            first | have tnn := t_add enn (by omega) (by omega) | skip
            refine va_put (D := D) (ci := 11) (v := .int nn) (ty := .int) (C := RX12) (T := TX12) (N := 54) hx hb hts in_M_away_X12 tyX12 tyX12_ok nmX12 hown hK.1 hP hD hS 0 rfl rfl 2 (by decide) lk1 (fun _ h9 => h9) rfl (by decide +kernel) rfl rfl (Nat.le_of_ble_eq_true rfl) dX12_away_76 (fun H locs hP hD hS => ?_)
            have hP : va_P D vwCl [(h, .inr (11, [.int v_today, .int v_monks, .int nn, .int v_feasts, .int v_gifts, .int v_leaves, .int v_lates, .int v_store, .int v_allCandles, .ref a_isPriest, .ref a_bars, .ref a_joined, .ref a_turns, .ref a_awayMonk, .ref a_awayFrom, .ref a_awayTo, .ref a_feastDay, .ref a_rank, .ref a_isWeekly, .ref a_isDouble, .ref a_giftDay, .ref a_giftFrom, .ref a_owed, .ref a_said, .ref a_spared, .ref a_leaveGift, .ref a_leaveFrom, .ref a_leaveTo, .ref a_lateDay, .ref a_lateOffice, .ref a_lateBy, .ref a_guests, .ref a_who, .ref a_used, .ref a_lacks, .ref a_candles, .ref a_masses, .ref a_owing, .ref a_heldOn, .ref a_waits, .ref a_tape, .ref a_text, .int v_taped, .int v_size, .int v_at, .int v_fault, .int v_rules, .ref a_statements, .ref a_taken, .ref a_sort, .ref a_first, .ref a_second, .int v_wordEnd, .int v_number])), (a_awayMonk, .inl (cI, 60, .inl ga_)), (a_awayFrom, .inl (cI, 60, .inl gb_)), (a_awayTo, .inl (cI, 60, .inl gc_))] H := hP
            have hD : va_D A [(h, .inr (11, [.int v_today, .int v_monks, .int nn, .int v_feasts, .int v_gifts, .int v_leaves, .int v_lates, .int v_store, .int v_allCandles, .ref a_isPriest, .ref a_bars, .ref a_joined, .ref a_turns, .ref a_awayMonk, .ref a_awayFrom, .ref a_awayTo, .ref a_feastDay, .ref a_rank, .ref a_isWeekly, .ref a_isDouble, .ref a_giftDay, .ref a_giftFrom, .ref a_owed, .ref a_said, .ref a_spared, .ref a_leaveGift, .ref a_leaveFrom, .ref a_leaveTo, .ref a_lateDay, .ref a_lateOffice, .ref a_lateBy, .ref a_guests, .ref a_who, .ref a_used, .ref a_lacks, .ref a_candles, .ref a_masses, .ref a_owing, .ref a_heldOn, .ref a_waits, .ref a_tape, .ref a_text, .int v_taped, .int v_size, .int v_at, .int v_fault, .int v_rules, .ref a_statements, .ref a_taken, .ref a_sort, .ref a_first, .ref a_second, .int v_wordEnd, .int v_number])), (a_awayMonk, .inl (cI, 60, .inl ga_)), (a_awayFrom, .inl (cI, 60, .inl gb_)), (a_awayTo, .inl (cI, 60, .inl gc_))] := hD
            refine lv_aload_n hx hb dX12_away_79 rfl (lv_at hl 0 rfl) ?_
            refine va_get (D := D) (ci := 11) (v := .int nn) (C := RX12) (T := TX12) (N := 54) hx hb hts in_M_away_X12 hown hK.1 hP 0 rfl rfl 2 (by decide) lk1 (fun _ h9 => h9) rfl dX12_away_80 ?_
            exact hret nn (nn, ga_, gb_, gc_) _ _ _ _ (show (((0 ≤ i.toInt ∧ i.toInt < v_monks.toInt ∧ v_today.toInt ≤ a.toInt ∧ a.toInt ≤ b.toInt ∧ b.toInt ≤ 1094) ∧ v_aways.toInt < 60) ∧ nn.toInt = v_aways.toInt + 1 ∧ nn = v_aways + 1 ∧ ga_ = upd f_awayMonk v_aways.toNatClampNeg i ∧ gb_ = upd f_awayFrom v_aways.toNatClampNeg a ∧ gc_ = upd f_awayTo v_aways.toNatClampNeg b) ∨ (¬ ((0 ≤ i.toInt ∧ i.toInt < v_monks.toInt ∧ v_today.toInt ≤ a.toInt ∧ a.toInt ≤ b.toInt ∧ b.toInt ≤ 1094) ∧ v_aways.toInt < 60) ∧ nn.toInt = -1 ∧ nn = v_aways ∧ ga_ = f_awayMonk ∧ gb_ = f_awayFrom ∧ gc_ = f_awayTo) from by first | exact Or.inl ⟨by omega, by omega, enn, ega_, egb_, egc_⟩ | exact Or.inr ⟨by omega, by omega, rfl, rfl, rfl, rfl⟩) rfl (hP.sub [0, 1, 2, 3] rfl) (hD.sub [0, 1, 2, 3] (by decide +kernel) rfl) hS dX12_away_83
          · have tc_7 := t_eq c_7
            refine lv_iconst (v := (-1)) hx hb dX12_away_37 (by decide) ?_
            exact hret (-1) (v_aways, f_awayMonk, f_awayFrom, f_awayTo) _ _ _ _ (show (((0 ≤ i.toInt ∧ i.toInt < v_monks.toInt ∧ v_today.toInt ≤ a.toInt ∧ a.toInt ≤ b.toInt ∧ b.toInt ≤ 1094) ∧ v_aways.toInt < 60) ∧ (-1 : Int32).toInt = v_aways.toInt + 1 ∧ v_aways = v_aways + 1 ∧ f_awayMonk = upd f_awayMonk v_aways.toNatClampNeg i ∧ f_awayFrom = upd f_awayFrom v_aways.toNatClampNeg a ∧ f_awayTo = upd f_awayTo v_aways.toNatClampNeg b) ∨ (¬ ((0 ≤ i.toInt ∧ i.toInt < v_monks.toInt ∧ v_today.toInt ≤ a.toInt ∧ a.toInt ≤ b.toInt ∧ b.toInt ≤ 1094) ∧ v_aways.toInt < 60) ∧ (-1 : Int32).toInt = -1 ∧ v_aways = v_aways ∧ f_awayMonk = f_awayMonk ∧ f_awayFrom = f_awayFrom ∧ f_awayTo = f_awayTo) from by first | exact Or.inl ⟨by omega, by omega, enn, ega_, egb_, egc_⟩ | exact Or.inr ⟨by omega, by omega, rfl, rfl, rfl, rfl⟩) rfl (hP.sub [0, 1, 2, 3] rfl) (hD.sub [0, 1, 2, 3] (by decide +kernel) rfl) hS dX12_away_38

theorem in_e_genter_X4 : ∀ w ∈ wsX40, w ∈ wsX4_enter := tl_X4_enter_X4
set_option maxHeartbeats 8000000 in
set_option maxRecDepth 100000 in
theorem e_genter {l : Launch} {D : va_G} {cI cZ cB : ClassId} {sz : Nat} {h a_weekly a_doubled a_dueOn a_owed a_said a_spared a_leaveOf a_leaveFrom a_leaveTo : Nat} {v_size v_rows : Int32} {f_weekly f_doubled f_dueOn : Nat → Int32} {px q t : Int32} (hv_size0 : 0 ≤ v_size.toInt) (hv_size1 : v_size.toInt ≤ 40) : Met l yX4_enter wsX4_enter ({ frames := 0, cells := 0, slots := 0, locals := 0 }) (RW D cI cZ cB [.ref h, .int px, .int q, .int t] sz [(h, .inr (4, [.ref a_weekly, .ref a_doubled, .ref a_dueOn, .ref a_owed, .ref a_said, .ref a_spared, .ref a_leaveOf, .ref a_leaveFrom, .ref a_leaveTo, .int v_size, .int v_rows])), (a_weekly, .inl (cZ, 40, .inl f_weekly)), (a_doubled, .inl (cZ, 40, .inl f_doubled)), (a_dueOn, .inl (cI, 40, .inl f_dueOn))]) (va_Qi (fun (r : Int32) (u : Int32 × (Nat → Int32) × (Nat → Int32) × (Nat → Int32)) => ((v_size.toInt < 40) ∧ r.toInt = v_size.toInt ∧ u.1 = v_size + 1 ∧ u.2.1 = upd f_weekly v_size.toNatClampNeg (vp_nar .boolean px) ∧ u.2.2.1 = upd f_dueOn v_size.toNatClampNeg q ∧ u.2.2.2 = upd f_doubled v_size.toNatClampNeg (vp_nar .boolean t)) ∨ (¬ (v_size.toInt < 40) ∧ r.toInt = -1 ∧ u.1 = v_size ∧ u.2.1 = f_weekly ∧ u.2.2.1 = f_dueOn ∧ u.2.2.2 = f_doubled)) (BW D [(h, .inr (4, [.ref a_weekly, .ref a_doubled, .ref a_dueOn, .ref a_owed, .ref a_said, .ref a_spared, .ref a_leaveOf, .ref a_leaveFrom, .ref a_leaveTo, .int v_size, .int v_rows])), (a_weekly, .inl (cZ, 40, .inl f_weekly)), (a_doubled, .inl (cZ, 40, .inl f_doubled)), (a_dueOn, .inl (cI, 40, .inl f_dueOn))] sz (fun u : Int32 × (Nat → Int32) × (Nat → Int32) × (Nat → Int32) => [(h, .inr (4, [.ref a_weekly, .ref a_doubled, .ref a_dueOn, .ref a_owed, .ref a_said, .ref a_spared, .ref a_leaveOf, .ref a_leaveFrom, .ref a_leaveTo, .int u.1, .int v_rows])), (a_weekly, .inl (cZ, 40, .inl u.2.1)), (a_doubled, .inl (cZ, 40, .inl u.2.2.2)), (a_dueOn, .inl (cI, 40, .inl u.2.2.1))])) (va_A [(h, .inr (4, [.ref a_weekly, .ref a_doubled, .ref a_dueOn, .ref a_owed, .ref a_said, .ref a_spared, .ref a_leaveOf, .ref a_leaveFrom, .ref a_leaveTo, .int v_size, .int v_rows])), (a_weekly, .inl (cZ, 40, .inl f_weekly)), (a_doubled, .inl (cZ, 40, .inl f_doubled)), (a_dueOn, .inl (cI, 40, .inl f_dueOn))] sz)) 0 (0) (va_A [(h, .inr (4, [.ref a_weekly, .ref a_doubled, .ref a_dueOn, .ref a_owed, .ref a_said, .ref a_spared, .ref a_leaveOf, .ref a_leaveFrom, .ref a_leaveTo, .int v_size, .int v_rows])), (a_weekly, .inl (cZ, 40, .inl f_weekly)), (a_doubled, .inl (cZ, 40, .inl f_doubled)), (a_dueOn, .inl (cI, 40, .inl f_dueOn))] sz) := by
  refine rw_ret (cc := cX4_enter) (maxL := 4) (ty := .int) (own := RX4) (by decide) rfl rfl (Nat.le_of_ble_eq_true rfl) ?_
  intro p e s m args below meth c Q A S hin hret hP hK hD hA hS ls hl
  obtain ⟨hx, hb, hml, hown, hts⟩ := id S
  have hl : lv_has ls 4 [(0, .ref h), (1, .int px), (2, .int q), (3, .int t)] := hl
  have kkm1 : (-1 : Int32).toInt = -1 := by decide
  have kk0 : (0 : Int32).toInt = 0 := by decide
  have kk1 : (1 : Int32).toInt = 1 := by decide
  have kk40 : (40 : Int32).toInt = 40 := by decide
  have lk0 := hts (.fieldLink RX4 40 "AbbeyHours$Gifts" "size" "I") (List.mem_cons_of_mem _ (List.mem_append_left _ (List.mem_of_getElem? (i := 0) rfl)))
  have lk1 := hts (.fieldLink RX4 11 "AbbeyHours$Gifts" "weekly" "[Z") (List.mem_cons_of_mem _ (List.mem_append_left _ (List.mem_of_getElem? (i := 1) rfl)))
  have lk2 := hts (.fieldLink RX4 18 "AbbeyHours$Gifts" "dueOn" "[I") (List.mem_cons_of_mem _ (List.mem_append_left _ (List.mem_of_getElem? (i := 2) rfl)))
  have lk3 := hts (.fieldLink RX4 15 "AbbeyHours$Gifts" "doubled" "[Z") (List.mem_cons_of_mem _ (List.mem_append_left _ (List.mem_of_getElem? (i := 3) rfl)))
  refine lv_aload_n hx hb dX4_enter_0 rfl (lv_at hl 0 rfl) ?_
  refine va_get (D := D) (ci := 4) (v := .int v_size) (C := RX4) (T := TX4) (N := 11) hx hb hts in_e_genter_X4 hown hK.1 hP 0 rfl rfl 9 (by decide) lk0 (fun _ h9 => h9) rfl dX4_enter_1 ?_
  refine lv_bipush (v := 40) hx hb dX4_enter_4 (by decide) ?_
  refine lv_icmp_lt (tgt := 11) hx hb dX4_enter_6 (by decide) (fun c_1 => ?_) (fun c_1 => ?_)
  · have tc_1 := t_lt c_1
    refine lv_aload_n hx hb dX4_enter_11 rfl (lv_at hl 0 rfl) ?_
    refine va_get (D := D) (ci := 4) (v := .ref a_weekly) (C := RX4) (T := TX4) (N := 11) hx hb hts in_e_genter_X4 hown hK.1 hP 0 rfl rfl 0 (by decide) lk1 (fun _ h9 => h9) rfl dX4_enter_12 ?_
    refine lv_aload_n hx hb dX4_enter_15 rfl (lv_at hl 0 rfl) ?_
    refine va_get (D := D) (ci := 4) (v := .int v_size) (C := RX4) (T := TX4) (N := 11) hx hb hts in_e_genter_X4 hown hK.1 hP 0 rfl rfl 9 (by decide) lk0 (fun _ h9 => h9) rfl dX4_enter_16 ?_
    refine lv_iload_n hx hb dX4_enter_19 rfl (lv_at hl 1 rfl) ?_
    refine va_zast hx hb hK.1 hP hD hS 1 1 rfl rfl (t_in (by omega) (by omega)) dX4_enter_20 (fun H locs hP hD hS => ?_)
    obtain ⟨ga_, ega_⟩ : ∃ z : Nat → Int32, z = upd f_weekly ((v_size : Int32).toNatClampNeg) (vp_nar .boolean px) := ⟨_, rfl⟩
    rw [← ega_] at hP hD
    have hP : va_P D vwCl [(h, .inr (4, [.ref a_weekly, .ref a_doubled, .ref a_dueOn, .ref a_owed, .ref a_said, .ref a_spared, .ref a_leaveOf, .ref a_leaveFrom, .ref a_leaveTo, .int v_size, .int v_rows])), (a_weekly, .inl (cZ, 40, .inl ga_)), (a_doubled, .inl (cZ, 40, .inl f_doubled)), (a_dueOn, .inl (cI, 40, .inl f_dueOn))] H := hP
    have hD : va_D A [(h, .inr (4, [.ref a_weekly, .ref a_doubled, .ref a_dueOn, .ref a_owed, .ref a_said, .ref a_spared, .ref a_leaveOf, .ref a_leaveFrom, .ref a_leaveTo, .int v_size, .int v_rows])), (a_weekly, .inl (cZ, 40, .inl ga_)), (a_doubled, .inl (cZ, 40, .inl f_doubled)), (a_dueOn, .inl (cI, 40, .inl f_dueOn))] := hD
    refine lv_aload_n hx hb dX4_enter_21 rfl (lv_at hl 0 rfl) ?_
    refine va_get (D := D) (ci := 4) (v := .ref a_dueOn) (C := RX4) (T := TX4) (N := 11) hx hb hts in_e_genter_X4 hown hK.1 hP 0 rfl rfl 2 (by decide) lk2 (fun _ h9 => h9) rfl dX4_enter_22 ?_
    refine lv_aload_n hx hb dX4_enter_25 rfl (lv_at hl 0 rfl) ?_
    refine va_get (D := D) (ci := 4) (v := .int v_size) (C := RX4) (T := TX4) (N := 11) hx hb hts in_e_genter_X4 hown hK.1 hP 0 rfl rfl 9 (by decide) lk0 (fun _ h9 => h9) rfl dX4_enter_26 ?_
    refine lv_iload_n hx hb dX4_enter_29 rfl (lv_at hl 2 rfl) ?_
    refine va_iast hx hb hK.1 hP hD hS 3 0 rfl rfl (t_in (by omega) (by omega)) dX4_enter_30 (fun H locs hP hD hS => ?_)
    obtain ⟨gb_, egb_⟩ : ∃ z : Nat → Int32, z = upd f_dueOn ((v_size : Int32).toNatClampNeg) q := ⟨_, rfl⟩
    rw [← egb_] at hP hD
    have hP : va_P D vwCl [(h, .inr (4, [.ref a_weekly, .ref a_doubled, .ref a_dueOn, .ref a_owed, .ref a_said, .ref a_spared, .ref a_leaveOf, .ref a_leaveFrom, .ref a_leaveTo, .int v_size, .int v_rows])), (a_weekly, .inl (cZ, 40, .inl ga_)), (a_doubled, .inl (cZ, 40, .inl f_doubled)), (a_dueOn, .inl (cI, 40, .inl gb_))] H := hP
    have hD : va_D A [(h, .inr (4, [.ref a_weekly, .ref a_doubled, .ref a_dueOn, .ref a_owed, .ref a_said, .ref a_spared, .ref a_leaveOf, .ref a_leaveFrom, .ref a_leaveTo, .int v_size, .int v_rows])), (a_weekly, .inl (cZ, 40, .inl ga_)), (a_doubled, .inl (cZ, 40, .inl f_doubled)), (a_dueOn, .inl (cI, 40, .inl gb_))] := hD
    refine lv_aload_n hx hb dX4_enter_31 rfl (lv_at hl 0 rfl) ?_
    refine va_get (D := D) (ci := 4) (v := .ref a_doubled) (C := RX4) (T := TX4) (N := 11) hx hb hts in_e_genter_X4 hown hK.1 hP 0 rfl rfl 1 (by decide) lk3 (fun _ h9 => h9) rfl dX4_enter_32 ?_
    refine lv_aload_n hx hb dX4_enter_35 rfl (lv_at hl 0 rfl) ?_
    refine va_get (D := D) (ci := 4) (v := .int v_size) (C := RX4) (T := TX4) (N := 11) hx hb hts in_e_genter_X4 hown hK.1 hP 0 rfl rfl 9 (by decide) lk0 (fun _ h9 => h9) rfl dX4_enter_36 ?_
    refine lv_iload_n hx hb dX4_enter_39 rfl (lv_at hl 3 rfl) ?_
    refine va_zast hx hb hK.1 hP hD hS 2 1 rfl rfl (t_in (by omega) (by omega)) dX4_enter_40 (fun H locs hP hD hS => ?_)
    obtain ⟨gc_, egc_⟩ : ∃ z : Nat → Int32, z = upd f_doubled ((v_size : Int32).toNatClampNeg) (vp_nar .boolean t) := ⟨_, rfl⟩
    rw [← egc_] at hP hD
    have hP : va_P D vwCl [(h, .inr (4, [.ref a_weekly, .ref a_doubled, .ref a_dueOn, .ref a_owed, .ref a_said, .ref a_spared, .ref a_leaveOf, .ref a_leaveFrom, .ref a_leaveTo, .int v_size, .int v_rows])), (a_weekly, .inl (cZ, 40, .inl ga_)), (a_doubled, .inl (cZ, 40, .inl gc_)), (a_dueOn, .inl (cI, 40, .inl gb_))] H := hP
    have hD : va_D A [(h, .inr (4, [.ref a_weekly, .ref a_doubled, .ref a_dueOn, .ref a_owed, .ref a_said, .ref a_spared, .ref a_leaveOf, .ref a_leaveFrom, .ref a_leaveTo, .int v_size, .int v_rows])), (a_weekly, .inl (cZ, 40, .inl ga_)), (a_doubled, .inl (cZ, 40, .inl gc_)), (a_dueOn, .inl (cI, 40, .inl gb_))] := hD
    refine lv_aload_n hx hb dX4_enter_41 rfl (lv_at hl 0 rfl) ?_
    refine lv_dup hx hb dX4_enter_42 rfl ?_
    refine va_get (D := D) (ci := 4) (v := .int v_size) (C := RX4) (T := TX4) (N := 11) hx hb hts in_e_genter_X4 hown hK.1 hP 0 rfl rfl 9 (by decide) lk0 (fun _ h9 => h9) rfl dX4_enter_43 ?_
    refine lv_iconst (v := 1) hx hb dX4_enter_46 (by decide) ?_
    refine lv_iadd hx hb dX4_enter_47 ?_
    refine lv_topi (fun nn enn => ?_)
    first | have tnn := t_add enn (by omega) (by omega) | skip
    refine va_put (D := D) (ci := 4) (v := .int nn) (ty := .int) (C := RX4) (T := TX4) (N := 11) hx hb hts in_e_genter_X4 tyX4 tyX4_ok nmX4 hown hK.1 hP hD hS 0 rfl rfl 9 (by decide) lk0 (fun _ h9 => h9) rfl (by decide +kernel) rfl rfl (Nat.le_of_ble_eq_true rfl) dX4_enter_48 (fun H locs hP hD hS => ?_)
    have hP : va_P D vwCl [(h, .inr (4, [.ref a_weekly, .ref a_doubled, .ref a_dueOn, .ref a_owed, .ref a_said, .ref a_spared, .ref a_leaveOf, .ref a_leaveFrom, .ref a_leaveTo, .int nn, .int v_rows])), (a_weekly, .inl (cZ, 40, .inl ga_)), (a_doubled, .inl (cZ, 40, .inl gc_)), (a_dueOn, .inl (cI, 40, .inl gb_))] H := hP
    have hD : va_D A [(h, .inr (4, [.ref a_weekly, .ref a_doubled, .ref a_dueOn, .ref a_owed, .ref a_said, .ref a_spared, .ref a_leaveOf, .ref a_leaveFrom, .ref a_leaveTo, .int nn, .int v_rows])), (a_weekly, .inl (cZ, 40, .inl ga_)), (a_doubled, .inl (cZ, 40, .inl gc_)), (a_dueOn, .inl (cI, 40, .inl gb_))] := hD
    refine lv_aload_n hx hb dX4_enter_51 rfl (lv_at hl 0 rfl) ?_
    refine va_get (D := D) (ci := 4) (v := .int nn) (C := RX4) (T := TX4) (N := 11) hx hb hts in_e_genter_X4 hown hK.1 hP 0 rfl rfl 9 (by decide) lk0 (fun _ h9 => h9) rfl dX4_enter_52 ?_
    refine lv_iconst (v := 1) hx hb dX4_enter_55 (by decide) ?_
    refine lv_isub hx hb dX4_enter_56 ?_
    refine lv_topi (fun x_6 ex_6 => ?_)
    first | have tx_6 := t_sub ex_6 (by omega) (by omega) | skip
    exact hret x_6 (nn, ga_, gb_, gc_) _ _ _ _ (show ((v_size.toInt < 40) ∧ x_6.toInt = v_size.toInt ∧ nn = v_size + 1 ∧ ga_ = upd f_weekly v_size.toNatClampNeg (vp_nar .boolean px) ∧ gb_ = upd f_dueOn v_size.toNatClampNeg q ∧ gc_ = upd f_doubled v_size.toNatClampNeg (vp_nar .boolean t)) ∨ (¬ (v_size.toInt < 40) ∧ x_6.toInt = -1 ∧ nn = v_size ∧ ga_ = f_weekly ∧ gb_ = f_dueOn ∧ gc_ = f_doubled) from by first | exact Or.inl ⟨by omega, by omega, enn, ega_, egb_, egc_⟩ | exact Or.inr ⟨by omega, by omega, rfl, rfl, rfl, rfl⟩) rfl (hP.sub [0, 1, 2, 3] rfl) (hD.sub [0, 1, 2, 3] (by decide +kernel) rfl) hS dX4_enter_57
  · have tc_1 := t_nlt c_1
    refine lv_iconst (v := (-1)) hx hb dX4_enter_9 (by decide) ?_
    exact hret (-1) (v_size, f_weekly, f_dueOn, f_doubled) _ _ _ _ (show ((v_size.toInt < 40) ∧ (-1 : Int32).toInt = v_size.toInt ∧ v_size = v_size + 1 ∧ f_weekly = upd f_weekly v_size.toNatClampNeg (vp_nar .boolean px) ∧ f_dueOn = upd f_dueOn v_size.toNatClampNeg q ∧ f_doubled = upd f_doubled v_size.toNatClampNeg (vp_nar .boolean t)) ∨ (¬ (v_size.toInt < 40) ∧ (-1 : Int32).toInt = -1 ∧ v_size = v_size ∧ f_weekly = f_weekly ∧ f_dueOn = f_dueOn ∧ f_doubled = f_doubled) from by first | exact Or.inl ⟨by omega, by omega, enn, ega_, egb_, egc_⟩ | exact Or.inr ⟨by omega, by omega, rfl, rfl, rfl, rfl⟩) rfl (hP.sub [0, 1, 2, 3] rfl) (hD.sub [0, 1, 2, 3] (by decide +kernel) rfl) hS dX4_enter_10

theorem in_E_gift_X11 : ∀ w ∈ wsX110, w ∈ wsX11_gift := tl_X11_gift_X11
set_option maxHeartbeats 8000000 in
set_option maxRecDepth 100000 in
theorem E_gift {l : Launch} {D : va_G} {cI cZ cB : ClassId} {sz : Nat} {h a_bells a_feasts a_tape a_reader a_rules a_monks a_duties a_gifts a_figures ga_weekly ga_doubled ga_dueOn ga_owed ga_said ga_spared ga_leaveOf ga_leaveFrom ga_leaveTo : Nat} {v_today v_stock v_guestHeads v_guestRanks v_faultPlace v_candlesInAll gv_size gv_rows : Int32} {gf_weekly gf_doubled gf_dueOn : Nat → Int32} {a n b : Int32} (hgv_size0 : 0 ≤ gv_size.toInt) (hgv_size1 : gv_size.toInt ≤ 40) : Met l yX11_gift wsX11_gift ({ frames := 2, cells := 0, slots := 0, locals := 42 }) (RW D cI cZ cB [.ref h, .int a, .int n, .int b] sz [(h, .inr (10, [.ref a_bells, .ref a_feasts, .ref a_tape, .ref a_reader, .ref a_rules, .ref a_monks, .ref a_duties, .ref a_gifts, .ref a_figures, .int v_today, .int v_stock, .int v_guestHeads, .int v_guestRanks, .int v_faultPlace, .int v_candlesInAll])), (a_gifts, .inr (4, [.ref ga_weekly, .ref ga_doubled, .ref ga_dueOn, .ref ga_owed, .ref ga_said, .ref ga_spared, .ref ga_leaveOf, .ref ga_leaveFrom, .ref ga_leaveTo, .int gv_size, .int gv_rows])), (ga_weekly, .inl (cZ, 40, .inl gf_weekly)), (ga_doubled, .inl (cZ, 40, .inl gf_doubled)), (ga_dueOn, .inl (cI, 40, .inl gf_dueOn))]) (va_Qi (fun (r : Int32) (u : Int32 × (Nat → Int32) × (Nat → Int32) × (Nat → Int32)) => ((((a.toInt ≠ 0 ∧ 0 ≤ n.toInt ∧ n.toInt ≤ 6) ∨ (a.toInt = 0 ∧ 0 ≤ n.toInt ∧ n.toInt ≤ 364)) ∧ gv_size.toInt < 40) ∧ r.toInt = gv_size.toInt ∧ u.1 = gv_size + 1 ∧ u.2.1 = upd gf_weekly gv_size.toNatClampNeg (vp_nar .boolean a) ∧ u.2.2.1 = upd gf_dueOn gv_size.toNatClampNeg n ∧ u.2.2.2 = upd gf_doubled gv_size.toNatClampNeg (vp_nar .boolean b)) ∨ (¬ (((a.toInt ≠ 0 ∧ 0 ≤ n.toInt ∧ n.toInt ≤ 6) ∨ (a.toInt = 0 ∧ 0 ≤ n.toInt ∧ n.toInt ≤ 364)) ∧ gv_size.toInt < 40) ∧ r.toInt = -1 ∧ u.1 = gv_size ∧ u.2.1 = gf_weekly ∧ u.2.2.1 = gf_dueOn ∧ u.2.2.2 = gf_doubled)) (BW D [(h, .inr (10, [.ref a_bells, .ref a_feasts, .ref a_tape, .ref a_reader, .ref a_rules, .ref a_monks, .ref a_duties, .ref a_gifts, .ref a_figures, .int v_today, .int v_stock, .int v_guestHeads, .int v_guestRanks, .int v_faultPlace, .int v_candlesInAll])), (a_gifts, .inr (4, [.ref ga_weekly, .ref ga_doubled, .ref ga_dueOn, .ref ga_owed, .ref ga_said, .ref ga_spared, .ref ga_leaveOf, .ref ga_leaveFrom, .ref ga_leaveTo, .int gv_size, .int gv_rows])), (ga_weekly, .inl (cZ, 40, .inl gf_weekly)), (ga_doubled, .inl (cZ, 40, .inl gf_doubled)), (ga_dueOn, .inl (cI, 40, .inl gf_dueOn))] sz (fun u : Int32 × (Nat → Int32) × (Nat → Int32) × (Nat → Int32) => [(h, .inr (10, [.ref a_bells, .ref a_feasts, .ref a_tape, .ref a_reader, .ref a_rules, .ref a_monks, .ref a_duties, .ref a_gifts, .ref a_figures, .int v_today, .int v_stock, .int v_guestHeads, .int v_guestRanks, .int v_faultPlace, .int v_candlesInAll])), (a_gifts, .inr (4, [.ref ga_weekly, .ref ga_doubled, .ref ga_dueOn, .ref ga_owed, .ref ga_said, .ref ga_spared, .ref ga_leaveOf, .ref ga_leaveFrom, .ref ga_leaveTo, .int u.1, .int gv_rows])), (ga_weekly, .inl (cZ, 40, .inl u.2.1)), (ga_doubled, .inl (cZ, 40, .inl u.2.2.2)), (ga_dueOn, .inl (cI, 40, .inl u.2.2.1))])) (va_A [(h, .inr (10, [.ref a_bells, .ref a_feasts, .ref a_tape, .ref a_reader, .ref a_rules, .ref a_monks, .ref a_duties, .ref a_gifts, .ref a_figures, .int v_today, .int v_stock, .int v_guestHeads, .int v_guestRanks, .int v_faultPlace, .int v_candlesInAll])), (a_gifts, .inr (4, [.ref ga_weekly, .ref ga_doubled, .ref ga_dueOn, .ref ga_owed, .ref ga_said, .ref ga_spared, .ref ga_leaveOf, .ref ga_leaveFrom, .ref ga_leaveTo, .int gv_size, .int gv_rows])), (ga_weekly, .inl (cZ, 40, .inl gf_weekly)), (ga_doubled, .inl (cZ, 40, .inl gf_doubled)), (ga_dueOn, .inl (cI, 40, .inl gf_dueOn))] sz)) 0 (0) (va_A [(h, .inr (10, [.ref a_bells, .ref a_feasts, .ref a_tape, .ref a_reader, .ref a_rules, .ref a_monks, .ref a_duties, .ref a_gifts, .ref a_figures, .int v_today, .int v_stock, .int v_guestHeads, .int v_guestRanks, .int v_faultPlace, .int v_candlesInAll])), (a_gifts, .inr (4, [.ref ga_weekly, .ref ga_doubled, .ref ga_dueOn, .ref ga_owed, .ref ga_said, .ref ga_spared, .ref ga_leaveOf, .ref ga_leaveFrom, .ref ga_leaveTo, .int gv_size, .int gv_rows])), (ga_weekly, .inl (cZ, 40, .inl gf_weekly)), (ga_doubled, .inl (cZ, 40, .inl gf_doubled)), (ga_dueOn, .inl (cI, 40, .inl gf_dueOn))] sz) := by
  refine rw_ret (cc := cX11_gift) (maxL := 5) (ty := .int) (own := RX11) (by decide) rfl rfl (Nat.le_of_ble_eq_true rfl) ?_
  intro p e s m args below meth c Q A S hin hret hP hK hD hA hS ls hl
  obtain ⟨hx, hb, hml, hown, hts⟩ := id S
  have hl : lv_has ls 5 [(0, .ref h), (1, .int a), (2, .int n), (3, .int b)] := hl
  have kkm1 : (-1 : Int32).toInt = -1 := by decide
  have kk0 : (0 : Int32).toInt = 0 := by decide
  have kk6 : (6 : Int32).toInt = 6 := by decide
  have lk0 := hts (.fieldLink RX11 61 "AbbeyHours" "gifts" "LAbbeyHours$Gifts;") (List.mem_cons_of_mem _ (List.mem_append_left _ (List.mem_append_left _ (List.mem_of_getElem? (i := 0) rfl))))
  refine lv_iload_n hx hb dX11_gift_0 rfl (lv_at hl 1 rfl) ?_
  refine lv_if_eq (tgt := 14) hx hb dX11_gift_1 (by decide) (fun c_1 => ?_) (fun c_1 => ?_)
  · have tc_1 := t_eq c_1
    refine lv_iload_n hx hb dX11_gift_14 rfl (lv_at hl 2 rfl) ?_
    have hPc := hP.sub (ws' := []) [] rfl
    refine roS (As := [.int n]) (rest := []) S (w_isDayOfYear  ) (va_cwS 1 hts gX11_gift_X11_isDayOfYear rfl rfl rfl hd_X11_isDayOfYear ⟨Nat.le_of_ble_eq_true rfl, Nat.le_of_ble_eq_true rfl⟩) hK hPc rfl hl.1 rfl (Nat.le_of_ble_eq_true rfl) dX11_gift_15 ⟨Nat.le_of_ble_eq_true rfl, Nat.le_of_ble_eq_true rfl⟩ (fun r_2 hw_2 => ?_)
    have hw_2 : (r_2.toInt = 1 ∧ 0 ≤ n.toInt ∧ n.toInt ≤ 364) ∨ (r_2.toInt = 0 ∧ (n.toInt < 0 ∨ 364 < n.toInt)) := hw_2
    refine lv_istore (lv' := [(4, .int r_2), (0, .ref h), (1, .int a), (2, .int n), (3, .int b)]) hx hb dX11_gift_18 hl (by decide) rfl (fun ls hl => ?_)
    refine lv_iload hx hb dX11_gift_20 (lv_at hl 0 rfl) ?_
    refine lv_if_eq (tgt := 38) hx hb dX11_gift_22 (by decide) (fun c_3 => ?_) (fun c_3 => ?_)
    · have tc_3 := t_eq c_3
      refine lv_iconst (v := (-1)) hx hb dX11_gift_38 (by decide) ?_
      exact hret (-1) (gv_size, gf_weekly, gf_dueOn, gf_doubled) _ _ _ _ (show ((((a.toInt ≠ 0 ∧ 0 ≤ n.toInt ∧ n.toInt ≤ 6) ∨ (a.toInt = 0 ∧ 0 ≤ n.toInt ∧ n.toInt ≤ 364)) ∧ gv_size.toInt < 40) ∧ (-1 : Int32).toInt = gv_size.toInt ∧ gv_size = gv_size + 1 ∧ gf_weekly = upd gf_weekly gv_size.toNatClampNeg (vp_nar .boolean a) ∧ gf_dueOn = upd gf_dueOn gv_size.toNatClampNeg n ∧ gf_doubled = upd gf_doubled gv_size.toNatClampNeg (vp_nar .boolean b)) ∨ (¬ (((a.toInt ≠ 0 ∧ 0 ≤ n.toInt ∧ n.toInt ≤ 6) ∨ (a.toInt = 0 ∧ 0 ≤ n.toInt ∧ n.toInt ≤ 364)) ∧ gv_size.toInt < 40) ∧ (-1 : Int32).toInt = -1 ∧ gv_size = gv_size ∧ gf_weekly = gf_weekly ∧ gf_dueOn = gf_dueOn ∧ gf_doubled = gf_doubled) from by first | (rcases hw_en with ⟨z1, z2⟩ | ⟨z1, z2⟩; exact Or.inl ⟨by omega, z2⟩; exact Or.inr ⟨by omega, z2⟩) | exact Or.inr ⟨by omega, by omega, rfl, rfl, rfl, rfl⟩) rfl (hP.sub [0, 1, 2, 3, 4] rfl) (hD.sub [0, 1, 2, 3, 4] (by decide +kernel) rfl) hS dX11_gift_39
    · have tc_3 := t_neq c_3
      refine lv_aload_n hx hb dX11_gift_25 rfl (lv_at hl 1 rfl) ?_
      refine va_get (D := D) (ci := 10) (v := .ref a_gifts) (C := RX11) (T := TX11) (N := 15) hx hb hts in_E_gift_X11 hown hK.1 hP 0 rfl rfl 7 (by decide) lk0 (fun _ h9 => h9) rfl dX11_gift_26 ?_
      refine lv_iload_n hx hb dX11_gift_29 rfl (lv_at hl 2 rfl) ?_
      refine lv_iload_n hx hb dX11_gift_30 rfl (lv_at hl 3 rfl) ?_
      refine lv_iload_n hx hb dX11_gift_31 rfl (lv_at hl 4 rfl) ?_
      have hPc := hP.sub (ws' := [(a_gifts, .inr (4, [.ref ga_weekly, .ref ga_doubled, .ref ga_dueOn, .ref ga_owed, .ref ga_said, .ref ga_spared, .ref ga_leaveOf, .ref ga_leaveFrom, .ref ga_leaveTo, .int gv_size, .int gv_rows])), (ga_weekly, .inl (cZ, 40, .inl gf_weekly)), (ga_doubled, .inl (cZ, 40, .inl gf_doubled)), (ga_dueOn, .inl (cI, 40, .inl gf_dueOn))]) [1, 2, 3, 4] rfl
      refine rwV (As := [.int a, .int n, .int b]) (rest := []) (wc := [(a_gifts, .inr (4, [.ref ga_weekly, .ref ga_doubled, .ref ga_dueOn, .ref ga_owed, .ref ga_said, .ref ga_spared, .ref ga_leaveOf, .ref ga_leaveFrom, .ref ga_leaveTo, .int gv_size, .int gv_rows])), (ga_weekly, .inl (cZ, 40, .inl gf_weekly)), (ga_doubled, .inl (cZ, 40, .inl gf_doubled)), (ga_dueOn, .inl (cI, 40, .inl gf_dueOn))]) (wr := [(h, .inr (10, [.ref a_bells, .ref a_feasts, .ref a_tape, .ref a_reader, .ref a_rules, .ref a_monks, .ref a_duties, .ref a_gifts, .ref a_figures, .int v_today, .int v_stock, .int v_guestHeads, .int v_guestRanks, .int v_faultPlace, .int v_candlesInAll]))]) S (e_genter  (by omega) (by omega)) (cwV 3 hts gX11_gift_X4_enter rfl rfl rfl ⟨rfl, hd_X4_enter⟩ ⟨Nat.le_of_ble_eq_true rfl, Nat.le_of_ble_eq_true rfl⟩) hK hP hD hS hA [1, 2, 3, 4] [0] rfl rfl (by decide +kernel) (by decide +kernel) (by decide +kernel) (va_recv hK.1 hPc (ci := 4) (q0 := 0) rfl rfl) rfl hl.1 rfl (Nat.le_of_ble_eq_true rfl) dX11_gift_32 ⟨Nat.le_of_ble_eq_true rfl, Nat.le_of_ble_eq_true rfl⟩ (fun r_en u_en H locs hw_en hP hD hS => ?_)
      obtain ⟨n1_en, f1_en, f2_en, f3_en⟩ := u_en
      have hw_en : ((gv_size.toInt < 40) ∧ r_en.toInt = gv_size.toInt ∧ n1_en = gv_size + 1 ∧ f1_en = upd gf_weekly gv_size.toNatClampNeg (vp_nar .boolean a) ∧ f2_en = upd gf_dueOn gv_size.toNatClampNeg n ∧ f3_en = upd gf_doubled gv_size.toNatClampNeg (vp_nar .boolean b)) ∨ (¬ (gv_size.toInt < 40) ∧ r_en.toInt = -1 ∧ n1_en = gv_size ∧ f1_en = gf_weekly ∧ f2_en = gf_dueOn ∧ f3_en = gf_doubled) := hw_en
      have hP : va_P D vwCl [(h, .inr (10, [.ref a_bells, .ref a_feasts, .ref a_tape, .ref a_reader, .ref a_rules, .ref a_monks, .ref a_duties, .ref a_gifts, .ref a_figures, .int v_today, .int v_stock, .int v_guestHeads, .int v_guestRanks, .int v_faultPlace, .int v_candlesInAll])), (a_gifts, .inr (4, [.ref ga_weekly, .ref ga_doubled, .ref ga_dueOn, .ref ga_owed, .ref ga_said, .ref ga_spared, .ref ga_leaveOf, .ref ga_leaveFrom, .ref ga_leaveTo, .int n1_en, .int gv_rows])), (ga_weekly, .inl (cZ, 40, .inl f1_en)), (ga_doubled, .inl (cZ, 40, .inl f3_en)), (ga_dueOn, .inl (cI, 40, .inl f2_en))] H := hP
      have hD : va_D A [(h, .inr (10, [.ref a_bells, .ref a_feasts, .ref a_tape, .ref a_reader, .ref a_rules, .ref a_monks, .ref a_duties, .ref a_gifts, .ref a_figures, .int v_today, .int v_stock, .int v_guestHeads, .int v_guestRanks, .int v_faultPlace, .int v_candlesInAll])), (a_gifts, .inr (4, [.ref ga_weekly, .ref ga_doubled, .ref ga_dueOn, .ref ga_owed, .ref ga_said, .ref ga_spared, .ref ga_leaveOf, .ref ga_leaveFrom, .ref ga_leaveTo, .int n1_en, .int gv_rows])), (ga_weekly, .inl (cZ, 40, .inl f1_en)), (ga_doubled, .inl (cZ, 40, .inl f3_en)), (ga_dueOn, .inl (cI, 40, .inl f2_en))] := hD
      refine lv_goto (tgt := 39) hx hb dX11_gift_35 (by decide) ?_
      exact hret r_en (n1_en, f1_en, f2_en, f3_en) _ _ _ _ (show ((((a.toInt ≠ 0 ∧ 0 ≤ n.toInt ∧ n.toInt ≤ 6) ∨ (a.toInt = 0 ∧ 0 ≤ n.toInt ∧ n.toInt ≤ 364)) ∧ gv_size.toInt < 40) ∧ r_en.toInt = gv_size.toInt ∧ n1_en = gv_size + 1 ∧ f1_en = upd gf_weekly gv_size.toNatClampNeg (vp_nar .boolean a) ∧ f2_en = upd gf_dueOn gv_size.toNatClampNeg n ∧ f3_en = upd gf_doubled gv_size.toNatClampNeg (vp_nar .boolean b)) ∨ (¬ (((a.toInt ≠ 0 ∧ 0 ≤ n.toInt ∧ n.toInt ≤ 6) ∨ (a.toInt = 0 ∧ 0 ≤ n.toInt ∧ n.toInt ≤ 364)) ∧ gv_size.toInt < 40) ∧ r_en.toInt = -1 ∧ n1_en = gv_size ∧ f1_en = gf_weekly ∧ f2_en = gf_dueOn ∧ f3_en = gf_doubled) from by first | (rcases hw_en with ⟨z1, z2⟩ | ⟨z1, z2⟩; exact Or.inl ⟨by omega, z2⟩; exact Or.inr ⟨by omega, z2⟩) | exact Or.inr ⟨by omega, by omega, rfl, rfl, rfl, rfl⟩) rfl (hP.sub [0, 1, 2, 3, 4] rfl) (hD.sub [0, 1, 2, 3, 4] (by decide +kernel) rfl) hS dX11_gift_39
  · have tc_1 := t_neq c_1
    refine lv_iload_n hx hb dX11_gift_4 rfl (lv_at hl 2 rfl) ?_
    refine lv_iconst (v := 0) hx hb dX11_gift_5 (by decide) ?_
    refine lv_bipush (v := 6) hx hb dX11_gift_6 (by decide) ?_
    have hPc := hP.sub (ws' := []) [] rfl
    refine roS (As := [.int n, .int 0, .int 6]) (rest := []) S (w_within  ) (va_cwS 3 hts gX11_gift_X11_within rfl rfl rfl hd_X11_within ⟨Nat.le_of_ble_eq_true rfl, Nat.le_of_ble_eq_true rfl⟩) hK hPc rfl hl.1 rfl (Nat.le_of_ble_eq_true rfl) dX11_gift_8 ⟨Nat.le_of_ble_eq_true rfl, Nat.le_of_ble_eq_true rfl⟩ (fun r_4 hw_4 => ?_)
    have hw_4 : (r_4.toInt = 1 ∧ (0 : Int32).toInt ≤ n.toInt ∧ n.toInt ≤ (6 : Int32).toInt) ∨ (r_4.toInt = 0 ∧ (n.toInt < (0 : Int32).toInt ∨ (6 : Int32).toInt < n.toInt)) := hw_4
    refine lv_goto (tgt := 18) hx hb dX11_gift_11 (by decide) ?_
    refine lv_istore (lv' := [(4, .int r_4), (0, .ref h), (1, .int a), (2, .int n), (3, .int b)]) hx hb dX11_gift_18 hl (by decide) rfl (fun ls hl => ?_)
    refine lv_iload hx hb dX11_gift_20 (lv_at hl 0 rfl) ?_
    refine lv_if_eq (tgt := 38) hx hb dX11_gift_22 (by decide) (fun c_5 => ?_) (fun c_5 => ?_)
    · have tc_5 := t_eq c_5
      refine lv_iconst (v := (-1)) hx hb dX11_gift_38 (by decide) ?_
      exact hret (-1) (gv_size, gf_weekly, gf_dueOn, gf_doubled) _ _ _ _ (show ((((a.toInt ≠ 0 ∧ 0 ≤ n.toInt ∧ n.toInt ≤ 6) ∨ (a.toInt = 0 ∧ 0 ≤ n.toInt ∧ n.toInt ≤ 364)) ∧ gv_size.toInt < 40) ∧ (-1 : Int32).toInt = gv_size.toInt ∧ gv_size = gv_size + 1 ∧ gf_weekly = upd gf_weekly gv_size.toNatClampNeg (vp_nar .boolean a) ∧ gf_dueOn = upd gf_dueOn gv_size.toNatClampNeg n ∧ gf_doubled = upd gf_doubled gv_size.toNatClampNeg (vp_nar .boolean b)) ∨ (¬ (((a.toInt ≠ 0 ∧ 0 ≤ n.toInt ∧ n.toInt ≤ 6) ∨ (a.toInt = 0 ∧ 0 ≤ n.toInt ∧ n.toInt ≤ 364)) ∧ gv_size.toInt < 40) ∧ (-1 : Int32).toInt = -1 ∧ gv_size = gv_size ∧ gf_weekly = gf_weekly ∧ gf_dueOn = gf_dueOn ∧ gf_doubled = gf_doubled) from by first | (rcases hw_en with ⟨z1, z2⟩ | ⟨z1, z2⟩; exact Or.inl ⟨by omega, z2⟩; exact Or.inr ⟨by omega, z2⟩) | exact Or.inr ⟨by omega, by omega, rfl, rfl, rfl, rfl⟩) rfl (hP.sub [0, 1, 2, 3, 4] rfl) (hD.sub [0, 1, 2, 3, 4] (by decide +kernel) rfl) hS dX11_gift_39
    · have tc_5 := t_neq c_5
      refine lv_aload_n hx hb dX11_gift_25 rfl (lv_at hl 1 rfl) ?_
      refine va_get (D := D) (ci := 10) (v := .ref a_gifts) (C := RX11) (T := TX11) (N := 15) hx hb hts in_E_gift_X11 hown hK.1 hP 0 rfl rfl 7 (by decide) lk0 (fun _ h9 => h9) rfl dX11_gift_26 ?_
      refine lv_iload_n hx hb dX11_gift_29 rfl (lv_at hl 2 rfl) ?_
      refine lv_iload_n hx hb dX11_gift_30 rfl (lv_at hl 3 rfl) ?_
      refine lv_iload_n hx hb dX11_gift_31 rfl (lv_at hl 4 rfl) ?_
      have hPc := hP.sub (ws' := [(a_gifts, .inr (4, [.ref ga_weekly, .ref ga_doubled, .ref ga_dueOn, .ref ga_owed, .ref ga_said, .ref ga_spared, .ref ga_leaveOf, .ref ga_leaveFrom, .ref ga_leaveTo, .int gv_size, .int gv_rows])), (ga_weekly, .inl (cZ, 40, .inl gf_weekly)), (ga_doubled, .inl (cZ, 40, .inl gf_doubled)), (ga_dueOn, .inl (cI, 40, .inl gf_dueOn))]) [1, 2, 3, 4] rfl
      refine rwV (As := [.int a, .int n, .int b]) (rest := []) (wc := [(a_gifts, .inr (4, [.ref ga_weekly, .ref ga_doubled, .ref ga_dueOn, .ref ga_owed, .ref ga_said, .ref ga_spared, .ref ga_leaveOf, .ref ga_leaveFrom, .ref ga_leaveTo, .int gv_size, .int gv_rows])), (ga_weekly, .inl (cZ, 40, .inl gf_weekly)), (ga_doubled, .inl (cZ, 40, .inl gf_doubled)), (ga_dueOn, .inl (cI, 40, .inl gf_dueOn))]) (wr := [(h, .inr (10, [.ref a_bells, .ref a_feasts, .ref a_tape, .ref a_reader, .ref a_rules, .ref a_monks, .ref a_duties, .ref a_gifts, .ref a_figures, .int v_today, .int v_stock, .int v_guestHeads, .int v_guestRanks, .int v_faultPlace, .int v_candlesInAll]))]) S (e_genter  (by omega) (by omega)) (cwV 3 hts gX11_gift_X4_enter rfl rfl rfl ⟨rfl, hd_X4_enter⟩ ⟨Nat.le_of_ble_eq_true rfl, Nat.le_of_ble_eq_true rfl⟩) hK hP hD hS hA [1, 2, 3, 4] [0] rfl rfl (by decide +kernel) (by decide +kernel) (by decide +kernel) (va_recv hK.1 hPc (ci := 4) (q0 := 0) rfl rfl) rfl hl.1 rfl (Nat.le_of_ble_eq_true rfl) dX11_gift_32 ⟨Nat.le_of_ble_eq_true rfl, Nat.le_of_ble_eq_true rfl⟩ (fun r_en u_en H locs hw_en hP hD hS => ?_)
      obtain ⟨n1_en, f1_en, f2_en, f3_en⟩ := u_en
      have hw_en : ((gv_size.toInt < 40) ∧ r_en.toInt = gv_size.toInt ∧ n1_en = gv_size + 1 ∧ f1_en = upd gf_weekly gv_size.toNatClampNeg (vp_nar .boolean a) ∧ f2_en = upd gf_dueOn gv_size.toNatClampNeg n ∧ f3_en = upd gf_doubled gv_size.toNatClampNeg (vp_nar .boolean b)) ∨ (¬ (gv_size.toInt < 40) ∧ r_en.toInt = -1 ∧ n1_en = gv_size ∧ f1_en = gf_weekly ∧ f2_en = gf_dueOn ∧ f3_en = gf_doubled) := hw_en
      have hP : va_P D vwCl [(h, .inr (10, [.ref a_bells, .ref a_feasts, .ref a_tape, .ref a_reader, .ref a_rules, .ref a_monks, .ref a_duties, .ref a_gifts, .ref a_figures, .int v_today, .int v_stock, .int v_guestHeads, .int v_guestRanks, .int v_faultPlace, .int v_candlesInAll])), (a_gifts, .inr (4, [.ref ga_weekly, .ref ga_doubled, .ref ga_dueOn, .ref ga_owed, .ref ga_said, .ref ga_spared, .ref ga_leaveOf, .ref ga_leaveFrom, .ref ga_leaveTo, .int n1_en, .int gv_rows])), (ga_weekly, .inl (cZ, 40, .inl f1_en)), (ga_doubled, .inl (cZ, 40, .inl f3_en)), (ga_dueOn, .inl (cI, 40, .inl f2_en))] H := hP
      have hD : va_D A [(h, .inr (10, [.ref a_bells, .ref a_feasts, .ref a_tape, .ref a_reader, .ref a_rules, .ref a_monks, .ref a_duties, .ref a_gifts, .ref a_figures, .int v_today, .int v_stock, .int v_guestHeads, .int v_guestRanks, .int v_faultPlace, .int v_candlesInAll])), (a_gifts, .inr (4, [.ref ga_weekly, .ref ga_doubled, .ref ga_dueOn, .ref ga_owed, .ref ga_said, .ref ga_spared, .ref ga_leaveOf, .ref ga_leaveFrom, .ref ga_leaveTo, .int n1_en, .int gv_rows])), (ga_weekly, .inl (cZ, 40, .inl f1_en)), (ga_doubled, .inl (cZ, 40, .inl f3_en)), (ga_dueOn, .inl (cI, 40, .inl f2_en))] := hD
      refine lv_goto (tgt := 39) hx hb dX11_gift_35 (by decide) ?_
      exact hret r_en (n1_en, f1_en, f2_en, f3_en) _ _ _ _ (show ((((a.toInt ≠ 0 ∧ 0 ≤ n.toInt ∧ n.toInt ≤ 6) ∨ (a.toInt = 0 ∧ 0 ≤ n.toInt ∧ n.toInt ≤ 364)) ∧ gv_size.toInt < 40) ∧ r_en.toInt = gv_size.toInt ∧ n1_en = gv_size + 1 ∧ f1_en = upd gf_weekly gv_size.toNatClampNeg (vp_nar .boolean a) ∧ f2_en = upd gf_dueOn gv_size.toNatClampNeg n ∧ f3_en = upd gf_doubled gv_size.toNatClampNeg (vp_nar .boolean b)) ∨ (¬ (((a.toInt ≠ 0 ∧ 0 ≤ n.toInt ∧ n.toInt ≤ 6) ∨ (a.toInt = 0 ∧ 0 ≤ n.toInt ∧ n.toInt ≤ 364)) ∧ gv_size.toInt < 40) ∧ r_en.toInt = -1 ∧ n1_en = gv_size ∧ f1_en = gf_weekly ∧ f2_en = gf_dueOn ∧ f3_en = gf_doubled) from by first | (rcases hw_en with ⟨z1, z2⟩ | ⟨z1, z2⟩; exact Or.inl ⟨by omega, z2⟩; exact Or.inr ⟨by omega, z2⟩) | exact Or.inr ⟨by omega, by omega, rfl, rfl, rfl, rfl⟩) rfl (hP.sub [0, 1, 2, 3, 4] rfl) (hD.sub [0, 1, 2, 3, 4] (by decide +kernel) rfl) hS dX11_gift_39

theorem in_M_gift_X12 : ∀ w ∈ wsX120, w ∈ wsX12_gift := tl_X12_gift_X12
set_option maxHeartbeats 8000000 in
set_option maxRecDepth 100000 in
theorem M_gift {l : Launch} {D : va_G} {cI cZ cB : ClassId} {sz : Nat} {h a_isPriest a_bars a_joined a_turns a_awayMonk a_awayFrom a_awayTo a_feastDay a_rank a_isWeekly a_isDouble a_giftDay a_giftFrom a_owed a_said a_spared a_leaveGift a_leaveFrom a_leaveTo a_lateDay a_lateOffice a_lateBy a_guests a_who a_used a_lacks a_candles a_masses a_owing a_heldOn a_waits a_tape a_text a_statements a_taken a_sort a_first a_second : Nat} {v_today v_monks v_aways v_feasts v_gifts v_leaves v_lates v_store v_allCandles v_taped v_size v_at v_fault v_rules v_wordEnd v_number : Int32} {f_isWeekly f_isDouble f_giftDay f_giftFrom : Nat → Int32} {a n b : Int32} (h0_gifts : 0 ≤ v_gifts.toInt) (h1_gifts : v_gifts.toInt ≤ 40) : Met l yX12_gift wsX12_gift ({ frames := 1, cells := 0, slots := 0, locals := 22 }) (RW D cI cZ cB [.ref h, .int a, .int n, .int b] sz [(h, .inr (11, [.int v_today, .int v_monks, .int v_aways, .int v_feasts, .int v_gifts, .int v_leaves, .int v_lates, .int v_store, .int v_allCandles, .ref a_isPriest, .ref a_bars, .ref a_joined, .ref a_turns, .ref a_awayMonk, .ref a_awayFrom, .ref a_awayTo, .ref a_feastDay, .ref a_rank, .ref a_isWeekly, .ref a_isDouble, .ref a_giftDay, .ref a_giftFrom, .ref a_owed, .ref a_said, .ref a_spared, .ref a_leaveGift, .ref a_leaveFrom, .ref a_leaveTo, .ref a_lateDay, .ref a_lateOffice, .ref a_lateBy, .ref a_guests, .ref a_who, .ref a_used, .ref a_lacks, .ref a_candles, .ref a_masses, .ref a_owing, .ref a_heldOn, .ref a_waits, .ref a_tape, .ref a_text, .int v_taped, .int v_size, .int v_at, .int v_fault, .int v_rules, .ref a_statements, .ref a_taken, .ref a_sort, .ref a_first, .ref a_second, .int v_wordEnd, .int v_number])), (a_isWeekly, .inl (cZ, 40, .inl f_isWeekly)), (a_isDouble, .inl (cZ, 40, .inl f_isDouble)), (a_giftDay, .inl (cI, 40, .inl f_giftDay)), (a_giftFrom, .inl (cI, 40, .inl f_giftFrom))]) (va_Qi (fun (r : Int32) (u : Int32 × (Nat → Int32) × (Nat → Int32) × (Nat → Int32) × (Nat → Int32)) => ((((a.toInt ≠ 0 ∧ 0 ≤ n.toInt ∧ n.toInt ≤ 6) ∨ (a.toInt = 0 ∧ 0 ≤ n.toInt ∧ n.toInt ≤ 364)) ∧ v_gifts.toInt < 40) ∧ r.toInt = v_gifts.toInt ∧ u.1 = v_gifts + 1 ∧ u.2.1 = upd f_isWeekly v_gifts.toNatClampNeg (vp_nar .boolean a) ∧ u.2.2.1 = upd f_giftDay v_gifts.toNatClampNeg n ∧ u.2.2.2.1 = upd f_isDouble v_gifts.toNatClampNeg (vp_nar .boolean b) ∧ u.2.2.2.2 = upd f_giftFrom v_gifts.toNatClampNeg v_today) ∨ (¬ (((a.toInt ≠ 0 ∧ 0 ≤ n.toInt ∧ n.toInt ≤ 6) ∨ (a.toInt = 0 ∧ 0 ≤ n.toInt ∧ n.toInt ≤ 364)) ∧ v_gifts.toInt < 40) ∧ r.toInt = -1 ∧ u.1 = v_gifts ∧ u.2.1 = f_isWeekly ∧ u.2.2.1 = f_giftDay ∧ u.2.2.2.1 = f_isDouble ∧ u.2.2.2.2 = f_giftFrom)) (BW D [(h, .inr (11, [.int v_today, .int v_monks, .int v_aways, .int v_feasts, .int v_gifts, .int v_leaves, .int v_lates, .int v_store, .int v_allCandles, .ref a_isPriest, .ref a_bars, .ref a_joined, .ref a_turns, .ref a_awayMonk, .ref a_awayFrom, .ref a_awayTo, .ref a_feastDay, .ref a_rank, .ref a_isWeekly, .ref a_isDouble, .ref a_giftDay, .ref a_giftFrom, .ref a_owed, .ref a_said, .ref a_spared, .ref a_leaveGift, .ref a_leaveFrom, .ref a_leaveTo, .ref a_lateDay, .ref a_lateOffice, .ref a_lateBy, .ref a_guests, .ref a_who, .ref a_used, .ref a_lacks, .ref a_candles, .ref a_masses, .ref a_owing, .ref a_heldOn, .ref a_waits, .ref a_tape, .ref a_text, .int v_taped, .int v_size, .int v_at, .int v_fault, .int v_rules, .ref a_statements, .ref a_taken, .ref a_sort, .ref a_first, .ref a_second, .int v_wordEnd, .int v_number])), (a_isWeekly, .inl (cZ, 40, .inl f_isWeekly)), (a_isDouble, .inl (cZ, 40, .inl f_isDouble)), (a_giftDay, .inl (cI, 40, .inl f_giftDay)), (a_giftFrom, .inl (cI, 40, .inl f_giftFrom))] sz (fun u : Int32 × (Nat → Int32) × (Nat → Int32) × (Nat → Int32) × (Nat → Int32) => [(h, .inr (11, [.int v_today, .int v_monks, .int v_aways, .int v_feasts, .int u.1, .int v_leaves, .int v_lates, .int v_store, .int v_allCandles, .ref a_isPriest, .ref a_bars, .ref a_joined, .ref a_turns, .ref a_awayMonk, .ref a_awayFrom, .ref a_awayTo, .ref a_feastDay, .ref a_rank, .ref a_isWeekly, .ref a_isDouble, .ref a_giftDay, .ref a_giftFrom, .ref a_owed, .ref a_said, .ref a_spared, .ref a_leaveGift, .ref a_leaveFrom, .ref a_leaveTo, .ref a_lateDay, .ref a_lateOffice, .ref a_lateBy, .ref a_guests, .ref a_who, .ref a_used, .ref a_lacks, .ref a_candles, .ref a_masses, .ref a_owing, .ref a_heldOn, .ref a_waits, .ref a_tape, .ref a_text, .int v_taped, .int v_size, .int v_at, .int v_fault, .int v_rules, .ref a_statements, .ref a_taken, .ref a_sort, .ref a_first, .ref a_second, .int v_wordEnd, .int v_number])), (a_isWeekly, .inl (cZ, 40, .inl u.2.1)), (a_isDouble, .inl (cZ, 40, .inl u.2.2.2.1)), (a_giftDay, .inl (cI, 40, .inl u.2.2.1)), (a_giftFrom, .inl (cI, 40, .inl u.2.2.2.2))])) (va_A [(h, .inr (11, [.int v_today, .int v_monks, .int v_aways, .int v_feasts, .int v_gifts, .int v_leaves, .int v_lates, .int v_store, .int v_allCandles, .ref a_isPriest, .ref a_bars, .ref a_joined, .ref a_turns, .ref a_awayMonk, .ref a_awayFrom, .ref a_awayTo, .ref a_feastDay, .ref a_rank, .ref a_isWeekly, .ref a_isDouble, .ref a_giftDay, .ref a_giftFrom, .ref a_owed, .ref a_said, .ref a_spared, .ref a_leaveGift, .ref a_leaveFrom, .ref a_leaveTo, .ref a_lateDay, .ref a_lateOffice, .ref a_lateBy, .ref a_guests, .ref a_who, .ref a_used, .ref a_lacks, .ref a_candles, .ref a_masses, .ref a_owing, .ref a_heldOn, .ref a_waits, .ref a_tape, .ref a_text, .int v_taped, .int v_size, .int v_at, .int v_fault, .int v_rules, .ref a_statements, .ref a_taken, .ref a_sort, .ref a_first, .ref a_second, .int v_wordEnd, .int v_number])), (a_isWeekly, .inl (cZ, 40, .inl f_isWeekly)), (a_isDouble, .inl (cZ, 40, .inl f_isDouble)), (a_giftDay, .inl (cI, 40, .inl f_giftDay)), (a_giftFrom, .inl (cI, 40, .inl f_giftFrom))] sz)) 0 (0) (va_A [(h, .inr (11, [.int v_today, .int v_monks, .int v_aways, .int v_feasts, .int v_gifts, .int v_leaves, .int v_lates, .int v_store, .int v_allCandles, .ref a_isPriest, .ref a_bars, .ref a_joined, .ref a_turns, .ref a_awayMonk, .ref a_awayFrom, .ref a_awayTo, .ref a_feastDay, .ref a_rank, .ref a_isWeekly, .ref a_isDouble, .ref a_giftDay, .ref a_giftFrom, .ref a_owed, .ref a_said, .ref a_spared, .ref a_leaveGift, .ref a_leaveFrom, .ref a_leaveTo, .ref a_lateDay, .ref a_lateOffice, .ref a_lateBy, .ref a_guests, .ref a_who, .ref a_used, .ref a_lacks, .ref a_candles, .ref a_masses, .ref a_owing, .ref a_heldOn, .ref a_waits, .ref a_tape, .ref a_text, .int v_taped, .int v_size, .int v_at, .int v_fault, .int v_rules, .ref a_statements, .ref a_taken, .ref a_sort, .ref a_first, .ref a_second, .int v_wordEnd, .int v_number])), (a_isWeekly, .inl (cZ, 40, .inl f_isWeekly)), (a_isDouble, .inl (cZ, 40, .inl f_isDouble)), (a_giftDay, .inl (cI, 40, .inl f_giftDay)), (a_giftFrom, .inl (cI, 40, .inl f_giftFrom))] sz) := by
  refine rw_ret (cc := cX12_gift) (maxL := 4) (ty := .int) (own := RX12) (by decide) rfl rfl (Nat.le_of_ble_eq_true rfl) ?_
  intro p e s m args below meth c Q A S hin hret hP hK hD hA hS ls hl
  obtain ⟨hx, hb, hml, hown, hts⟩ := id S
  have hl : lv_has ls 4 [(0, .ref h), (1, .int a), (2, .int n), (3, .int b)] := hl
  have kkm1 : (-1 : Int32).toInt = -1 := by decide
  have kk0 : (0 : Int32).toInt = 0 := by decide
  have kk1 : (1 : Int32).toInt = 1 := by decide
  have kk6 : (6 : Int32).toInt = 6 := by decide
  have kk40 : (40 : Int32).toInt = 40 := by decide
  have kk364 : (364 : Int32).toInt = 364 := by decide
  have lk0 := hts (.fieldLink RX12 137 "AbbeyHoursModel" "gifts" "I") (List.mem_cons_of_mem _ (List.mem_append_left _ (List.mem_of_getElem? (i := 0) rfl)))
  have lk1 := hts (.fieldLink RX12 38 "AbbeyHoursModel" "isWeekly" "[Z") (List.mem_cons_of_mem _ (List.mem_append_left _ (List.mem_of_getElem? (i := 1) rfl)))
  have lk2 := hts (.fieldLink RX12 44 "AbbeyHoursModel" "giftDay" "[I") (List.mem_cons_of_mem _ (List.mem_append_left _ (List.mem_of_getElem? (i := 2) rfl)))
  have lk3 := hts (.fieldLink RX12 41 "AbbeyHoursModel" "isDouble" "[Z") (List.mem_cons_of_mem _ (List.mem_append_left _ (List.mem_of_getElem? (i := 3) rfl)))
  have lk4 := hts (.fieldLink RX12 47 "AbbeyHoursModel" "giftFrom" "[I") (List.mem_cons_of_mem _ (List.mem_append_left _ (List.mem_of_getElem? (i := 4) rfl)))
  have lk5 := hts (.fieldLink RX12 140 "AbbeyHoursModel" "today" "I") (List.mem_cons_of_mem _ (List.mem_append_left _ (List.mem_of_getElem? (i := 5) rfl)))
  refine lv_iload_n hx hb dX12_gift_0 rfl (lv_at hl 2 rfl) ?_
  refine lv_iconst (v := 0) hx hb dX12_gift_1 (by decide) ?_
  refine lv_iload_n hx hb dX12_gift_2 rfl (lv_at hl 1 rfl) ?_
  refine lv_if_eq (tgt := 11) hx hb dX12_gift_3 (by decide) (fun c_1 => ?_) (fun c_1 => ?_)
  · have tc_1 := t_eq c_1
    refine lv_sipush (v := 364) hx hb dX12_gift_11 (by decide) ?_
    have hPc := hP.sub (ws' := []) [] rfl
    refine roS (As := [.int n, .int 0, .int 364]) (rest := []) S (m_isIn  ) (va_cwS 3 hts gX12_gift_X12_isIn rfl rfl rfl hd_X12_isIn ⟨Nat.le_of_ble_eq_true rfl, Nat.le_of_ble_eq_true rfl⟩) hK hPc rfl hl.1 rfl (Nat.le_of_ble_eq_true rfl) dX12_gift_14 ⟨Nat.le_of_ble_eq_true rfl, Nat.le_of_ble_eq_true rfl⟩ (fun r_2 hw_2 => ?_)
    have hw_2 : (r_2.toInt = 1 ∧ (0 : Int32).toInt ≤ n.toInt ∧ n.toInt ≤ (364 : Int32).toInt) ∨ (r_2.toInt = 0 ∧ (n.toInt < (0 : Int32).toInt ∨ (364 : Int32).toInt < n.toInt)) := hw_2
    refine lv_if_eq (tgt := 29) hx hb dX12_gift_17 (by decide) (fun c_3 => ?_) (fun c_3 => ?_)
    · have tc_3 := t_eq c_3
      refine lv_iconst (v := (-1)) hx hb dX12_gift_29 (by decide) ?_
      exact hret (-1) (v_gifts, f_isWeekly, f_giftDay, f_isDouble, f_giftFrom) _ _ _ _ (show ((((a.toInt ≠ 0 ∧ 0 ≤ n.toInt ∧ n.toInt ≤ 6) ∨ (a.toInt = 0 ∧ 0 ≤ n.toInt ∧ n.toInt ≤ 364)) ∧ v_gifts.toInt < 40) ∧ (-1 : Int32).toInt = v_gifts.toInt ∧ v_gifts = v_gifts + 1 ∧ f_isWeekly = upd f_isWeekly v_gifts.toNatClampNeg (vp_nar .boolean a) ∧ f_giftDay = upd f_giftDay v_gifts.toNatClampNeg n ∧ f_isDouble = upd f_isDouble v_gifts.toNatClampNeg (vp_nar .boolean b) ∧ f_giftFrom = upd f_giftFrom v_gifts.toNatClampNeg v_today) ∨ (¬ (((a.toInt ≠ 0 ∧ 0 ≤ n.toInt ∧ n.toInt ≤ 6) ∨ (a.toInt = 0 ∧ 0 ≤ n.toInt ∧ n.toInt ≤ 364)) ∧ v_gifts.toInt < 40) ∧ (-1 : Int32).toInt = -1 ∧ v_gifts = v_gifts ∧ f_isWeekly = f_isWeekly ∧ f_giftDay = f_giftDay ∧ f_isDouble = f_isDouble ∧ f_giftFrom = f_giftFrom) from by first | exact Or.inl ⟨by omega, by omega, enn, ega_, egb_, egc_, egd_⟩ | exact Or.inr ⟨by omega, by omega, rfl, rfl, rfl, rfl, rfl⟩) rfl (hP.sub [0, 1, 2, 3, 4] rfl) (hD.sub [0, 1, 2, 3, 4] (by decide +kernel) rfl) hS dX12_gift_30
    · have tc_3 := t_neq c_3
      refine lv_aload_n hx hb dX12_gift_20 rfl (lv_at hl 0 rfl) ?_
      refine va_get (D := D) (ci := 11) (v := .int v_gifts) (C := RX12) (T := TX12) (N := 54) hx hb hts in_M_gift_X12 hown hK.1 hP 0 rfl rfl 4 (by decide) lk0 (fun _ h9 => h9) rfl dX12_gift_21 ?_
      refine lv_bipush (v := 40) hx hb dX12_gift_24 (by decide) ?_
      refine lv_icmp_ne (tgt := 31) hx hb dX12_gift_26 (by decide) (fun c_4 => ?_) (fun c_4 => ?_)
      · have tc_4 := t_neq c_4
        refine lv_aload_n hx hb dX12_gift_31 rfl (lv_at hl 0 rfl) ?_
        refine va_get (D := D) (ci := 11) (v := .ref a_isWeekly) (C := RX12) (T := TX12) (N := 54) hx hb hts in_M_gift_X12 hown hK.1 hP 0 rfl rfl 18 (by decide) lk1 (fun _ h9 => h9) rfl dX12_gift_32 ?_
        refine lv_aload_n hx hb dX12_gift_35 rfl (lv_at hl 0 rfl) ?_
        refine va_get (D := D) (ci := 11) (v := .int v_gifts) (C := RX12) (T := TX12) (N := 54) hx hb hts in_M_gift_X12 hown hK.1 hP 0 rfl rfl 4 (by decide) lk0 (fun _ h9 => h9) rfl dX12_gift_36 ?_
        refine lv_iload_n hx hb dX12_gift_39 rfl (lv_at hl 1 rfl) ?_
        refine va_zast hx hb hK.1 hP hD hS 1 1 rfl rfl (t_in (by omega) (by omega)) dX12_gift_40 (fun H locs hP hD hS => ?_)
        obtain ⟨ga_, ega_⟩ : ∃ z : Nat → Int32, z = upd f_isWeekly ((v_gifts : Int32).toNatClampNeg) (vp_nar .boolean a) := ⟨_, rfl⟩
        rw [← ega_] at hP hD
        have hP : va_P D vwCl [(h, .inr (11, [.int v_today, .int v_monks, .int v_aways, .int v_feasts, .int v_gifts, .int v_leaves, .int v_lates, .int v_store, .int v_allCandles, .ref a_isPriest, .ref a_bars, .ref a_joined, .ref a_turns, .ref a_awayMonk, .ref a_awayFrom, .ref a_awayTo, .ref a_feastDay, .ref a_rank, .ref a_isWeekly, .ref a_isDouble, .ref a_giftDay, .ref a_giftFrom, .ref a_owed, .ref a_said, .ref a_spared, .ref a_leaveGift, .ref a_leaveFrom, .ref a_leaveTo, .ref a_lateDay, .ref a_lateOffice, .ref a_lateBy, .ref a_guests, .ref a_who, .ref a_used, .ref a_lacks, .ref a_candles, .ref a_masses, .ref a_owing, .ref a_heldOn, .ref a_waits, .ref a_tape, .ref a_text, .int v_taped, .int v_size, .int v_at, .int v_fault, .int v_rules, .ref a_statements, .ref a_taken, .ref a_sort, .ref a_first, .ref a_second, .int v_wordEnd, .int v_number])), (a_isWeekly, .inl (cZ, 40, .inl ga_)), (a_isDouble, .inl (cZ, 40, .inl f_isDouble)), (a_giftDay, .inl (cI, 40, .inl f_giftDay)), (a_giftFrom, .inl (cI, 40, .inl f_giftFrom))] H := hP
        have hD : va_D A [(h, .inr (11, [.int v_today, .int v_monks, .int v_aways, .int v_feasts, .int v_gifts, .int v_leaves, .int v_lates, .int v_store, .int v_allCandles, .ref a_isPriest, .ref a_bars, .ref a_joined, .ref a_turns, .ref a_awayMonk, .ref a_awayFrom, .ref a_awayTo, .ref a_feastDay, .ref a_rank, .ref a_isWeekly, .ref a_isDouble, .ref a_giftDay, .ref a_giftFrom, .ref a_owed, .ref a_said, .ref a_spared, .ref a_leaveGift, .ref a_leaveFrom, .ref a_leaveTo, .ref a_lateDay, .ref a_lateOffice, .ref a_lateBy, .ref a_guests, .ref a_who, .ref a_used, .ref a_lacks, .ref a_candles, .ref a_masses, .ref a_owing, .ref a_heldOn, .ref a_waits, .ref a_tape, .ref a_text, .int v_taped, .int v_size, .int v_at, .int v_fault, .int v_rules, .ref a_statements, .ref a_taken, .ref a_sort, .ref a_first, .ref a_second, .int v_wordEnd, .int v_number])), (a_isWeekly, .inl (cZ, 40, .inl ga_)), (a_isDouble, .inl (cZ, 40, .inl f_isDouble)), (a_giftDay, .inl (cI, 40, .inl f_giftDay)), (a_giftFrom, .inl (cI, 40, .inl f_giftFrom))] := hD
        refine lv_aload_n hx hb dX12_gift_41 rfl (lv_at hl 0 rfl) ?_
        refine va_get (D := D) (ci := 11) (v := .ref a_giftDay) (C := RX12) (T := TX12) (N := 54) hx hb hts in_M_gift_X12 hown hK.1 hP 0 rfl rfl 20 (by decide) lk2 (fun _ h9 => h9) rfl dX12_gift_42 ?_
        refine lv_aload_n hx hb dX12_gift_45 rfl (lv_at hl 0 rfl) ?_
        refine va_get (D := D) (ci := 11) (v := .int v_gifts) (C := RX12) (T := TX12) (N := 54) hx hb hts in_M_gift_X12 hown hK.1 hP 0 rfl rfl 4 (by decide) lk0 (fun _ h9 => h9) rfl dX12_gift_46 ?_
        refine lv_iload_n hx hb dX12_gift_49 rfl (lv_at hl 2 rfl) ?_
        refine va_iast hx hb hK.1 hP hD hS 3 0 rfl rfl (t_in (by omega) (by omega)) dX12_gift_50 (fun H locs hP hD hS => ?_)
        obtain ⟨gb_, egb_⟩ : ∃ z : Nat → Int32, z = upd f_giftDay ((v_gifts : Int32).toNatClampNeg) n := ⟨_, rfl⟩
        rw [← egb_] at hP hD
        have hP : va_P D vwCl [(h, .inr (11, [.int v_today, .int v_monks, .int v_aways, .int v_feasts, .int v_gifts, .int v_leaves, .int v_lates, .int v_store, .int v_allCandles, .ref a_isPriest, .ref a_bars, .ref a_joined, .ref a_turns, .ref a_awayMonk, .ref a_awayFrom, .ref a_awayTo, .ref a_feastDay, .ref a_rank, .ref a_isWeekly, .ref a_isDouble, .ref a_giftDay, .ref a_giftFrom, .ref a_owed, .ref a_said, .ref a_spared, .ref a_leaveGift, .ref a_leaveFrom, .ref a_leaveTo, .ref a_lateDay, .ref a_lateOffice, .ref a_lateBy, .ref a_guests, .ref a_who, .ref a_used, .ref a_lacks, .ref a_candles, .ref a_masses, .ref a_owing, .ref a_heldOn, .ref a_waits, .ref a_tape, .ref a_text, .int v_taped, .int v_size, .int v_at, .int v_fault, .int v_rules, .ref a_statements, .ref a_taken, .ref a_sort, .ref a_first, .ref a_second, .int v_wordEnd, .int v_number])), (a_isWeekly, .inl (cZ, 40, .inl ga_)), (a_isDouble, .inl (cZ, 40, .inl f_isDouble)), (a_giftDay, .inl (cI, 40, .inl gb_)), (a_giftFrom, .inl (cI, 40, .inl f_giftFrom))] H := hP
        have hD : va_D A [(h, .inr (11, [.int v_today, .int v_monks, .int v_aways, .int v_feasts, .int v_gifts, .int v_leaves, .int v_lates, .int v_store, .int v_allCandles, .ref a_isPriest, .ref a_bars, .ref a_joined, .ref a_turns, .ref a_awayMonk, .ref a_awayFrom, .ref a_awayTo, .ref a_feastDay, .ref a_rank, .ref a_isWeekly, .ref a_isDouble, .ref a_giftDay, .ref a_giftFrom, .ref a_owed, .ref a_said, .ref a_spared, .ref a_leaveGift, .ref a_leaveFrom, .ref a_leaveTo, .ref a_lateDay, .ref a_lateOffice, .ref a_lateBy, .ref a_guests, .ref a_who, .ref a_used, .ref a_lacks, .ref a_candles, .ref a_masses, .ref a_owing, .ref a_heldOn, .ref a_waits, .ref a_tape, .ref a_text, .int v_taped, .int v_size, .int v_at, .int v_fault, .int v_rules, .ref a_statements, .ref a_taken, .ref a_sort, .ref a_first, .ref a_second, .int v_wordEnd, .int v_number])), (a_isWeekly, .inl (cZ, 40, .inl ga_)), (a_isDouble, .inl (cZ, 40, .inl f_isDouble)), (a_giftDay, .inl (cI, 40, .inl gb_)), (a_giftFrom, .inl (cI, 40, .inl f_giftFrom))] := hD
        refine lv_aload_n hx hb dX12_gift_51 rfl (lv_at hl 0 rfl) ?_
        refine va_get (D := D) (ci := 11) (v := .ref a_isDouble) (C := RX12) (T := TX12) (N := 54) hx hb hts in_M_gift_X12 hown hK.1 hP 0 rfl rfl 19 (by decide) lk3 (fun _ h9 => h9) rfl dX12_gift_52 ?_
        refine lv_aload_n hx hb dX12_gift_55 rfl (lv_at hl 0 rfl) ?_
        refine va_get (D := D) (ci := 11) (v := .int v_gifts) (C := RX12) (T := TX12) (N := 54) hx hb hts in_M_gift_X12 hown hK.1 hP 0 rfl rfl 4 (by decide) lk0 (fun _ h9 => h9) rfl dX12_gift_56 ?_
        refine lv_iload_n hx hb dX12_gift_59 rfl (lv_at hl 3 rfl) ?_
        refine va_zast hx hb hK.1 hP hD hS 2 1 rfl rfl (t_in (by omega) (by omega)) dX12_gift_60 (fun H locs hP hD hS => ?_)
        obtain ⟨gc_, egc_⟩ : ∃ z : Nat → Int32, z = upd f_isDouble ((v_gifts : Int32).toNatClampNeg) (vp_nar .boolean b) := ⟨_, rfl⟩
        rw [← egc_] at hP hD
        have hP : va_P D vwCl [(h, .inr (11, [.int v_today, .int v_monks, .int v_aways, .int v_feasts, .int v_gifts, .int v_leaves, .int v_lates, .int v_store, .int v_allCandles, .ref a_isPriest, .ref a_bars, .ref a_joined, .ref a_turns, .ref a_awayMonk, .ref a_awayFrom, .ref a_awayTo, .ref a_feastDay, .ref a_rank, .ref a_isWeekly, .ref a_isDouble, .ref a_giftDay, .ref a_giftFrom, .ref a_owed, .ref a_said, .ref a_spared, .ref a_leaveGift, .ref a_leaveFrom, .ref a_leaveTo, .ref a_lateDay, .ref a_lateOffice, .ref a_lateBy, .ref a_guests, .ref a_who, .ref a_used, .ref a_lacks, .ref a_candles, .ref a_masses, .ref a_owing, .ref a_heldOn, .ref a_waits, .ref a_tape, .ref a_text, .int v_taped, .int v_size, .int v_at, .int v_fault, .int v_rules, .ref a_statements, .ref a_taken, .ref a_sort, .ref a_first, .ref a_second, .int v_wordEnd, .int v_number])), (a_isWeekly, .inl (cZ, 40, .inl ga_)), (a_isDouble, .inl (cZ, 40, .inl gc_)), (a_giftDay, .inl (cI, 40, .inl gb_)), (a_giftFrom, .inl (cI, 40, .inl f_giftFrom))] H := hP
        have hD : va_D A [(h, .inr (11, [.int v_today, .int v_monks, .int v_aways, .int v_feasts, .int v_gifts, .int v_leaves, .int v_lates, .int v_store, .int v_allCandles, .ref a_isPriest, .ref a_bars, .ref a_joined, .ref a_turns, .ref a_awayMonk, .ref a_awayFrom, .ref a_awayTo, .ref a_feastDay, .ref a_rank, .ref a_isWeekly, .ref a_isDouble, .ref a_giftDay, .ref a_giftFrom, .ref a_owed, .ref a_said, .ref a_spared, .ref a_leaveGift, .ref a_leaveFrom, .ref a_leaveTo, .ref a_lateDay, .ref a_lateOffice, .ref a_lateBy, .ref a_guests, .ref a_who, .ref a_used, .ref a_lacks, .ref a_candles, .ref a_masses, .ref a_owing, .ref a_heldOn, .ref a_waits, .ref a_tape, .ref a_text, .int v_taped, .int v_size, .int v_at, .int v_fault, .int v_rules, .ref a_statements, .ref a_taken, .ref a_sort, .ref a_first, .ref a_second, .int v_wordEnd, .int v_number])), (a_isWeekly, .inl (cZ, 40, .inl ga_)), (a_isDouble, .inl (cZ, 40, .inl gc_)), (a_giftDay, .inl (cI, 40, .inl gb_)), (a_giftFrom, .inl (cI, 40, .inl f_giftFrom))] := hD
        refine lv_aload_n hx hb dX12_gift_61 rfl (lv_at hl 0 rfl) ?_
        refine va_get (D := D) (ci := 11) (v := .ref a_giftFrom) (C := RX12) (T := TX12) (N := 54) hx hb hts in_M_gift_X12 hown hK.1 hP 0 rfl rfl 21 (by decide) lk4 (fun _ h9 => h9) rfl dX12_gift_62 ?_
        refine lv_aload_n hx hb dX12_gift_65 rfl (lv_at hl 0 rfl) ?_
        refine va_get (D := D) (ci := 11) (v := .int v_gifts) (C := RX12) (T := TX12) (N := 54) hx hb hts in_M_gift_X12 hown hK.1 hP 0 rfl rfl 4 (by decide) lk0 (fun _ h9 => h9) rfl dX12_gift_66 ?_
        refine lv_aload_n hx hb dX12_gift_69 rfl (lv_at hl 0 rfl) ?_
        refine va_get (D := D) (ci := 11) (v := .int v_today) (C := RX12) (T := TX12) (N := 54) hx hb hts in_M_gift_X12 hown hK.1 hP 0 rfl rfl 0 (by decide) lk5 (fun _ h9 => h9) rfl dX12_gift_70 ?_
        refine va_iast hx hb hK.1 hP hD hS 4 0 rfl rfl (t_in (by omega) (by omega)) dX12_gift_73 (fun H locs hP hD hS => ?_)
        obtain ⟨gd_, egd_⟩ : ∃ z : Nat → Int32, z = upd f_giftFrom ((v_gifts : Int32).toNatClampNeg) v_today := ⟨_, rfl⟩
        rw [← egd_] at hP hD
        have hP : va_P D vwCl [(h, .inr (11, [.int v_today, .int v_monks, .int v_aways, .int v_feasts, .int v_gifts, .int v_leaves, .int v_lates, .int v_store, .int v_allCandles, .ref a_isPriest, .ref a_bars, .ref a_joined, .ref a_turns, .ref a_awayMonk, .ref a_awayFrom, .ref a_awayTo, .ref a_feastDay, .ref a_rank, .ref a_isWeekly, .ref a_isDouble, .ref a_giftDay, .ref a_giftFrom, .ref a_owed, .ref a_said, .ref a_spared, .ref a_leaveGift, .ref a_leaveFrom, .ref a_leaveTo, .ref a_lateDay, .ref a_lateOffice, .ref a_lateBy, .ref a_guests, .ref a_who, .ref a_used, .ref a_lacks, .ref a_candles, .ref a_masses, .ref a_owing, .ref a_heldOn, .ref a_waits, .ref a_tape, .ref a_text, .int v_taped, .int v_size, .int v_at, .int v_fault, .int v_rules, .ref a_statements, .ref a_taken, .ref a_sort, .ref a_first, .ref a_second, .int v_wordEnd, .int v_number])), (a_isWeekly, .inl (cZ, 40, .inl ga_)), (a_isDouble, .inl (cZ, 40, .inl gc_)), (a_giftDay, .inl (cI, 40, .inl gb_)), (a_giftFrom, .inl (cI, 40, .inl gd_))] H := hP
        have hD : va_D A [(h, .inr (11, [.int v_today, .int v_monks, .int v_aways, .int v_feasts, .int v_gifts, .int v_leaves, .int v_lates, .int v_store, .int v_allCandles, .ref a_isPriest, .ref a_bars, .ref a_joined, .ref a_turns, .ref a_awayMonk, .ref a_awayFrom, .ref a_awayTo, .ref a_feastDay, .ref a_rank, .ref a_isWeekly, .ref a_isDouble, .ref a_giftDay, .ref a_giftFrom, .ref a_owed, .ref a_said, .ref a_spared, .ref a_leaveGift, .ref a_leaveFrom, .ref a_leaveTo, .ref a_lateDay, .ref a_lateOffice, .ref a_lateBy, .ref a_guests, .ref a_who, .ref a_used, .ref a_lacks, .ref a_candles, .ref a_masses, .ref a_owing, .ref a_heldOn, .ref a_waits, .ref a_tape, .ref a_text, .int v_taped, .int v_size, .int v_at, .int v_fault, .int v_rules, .ref a_statements, .ref a_taken, .ref a_sort, .ref a_first, .ref a_second, .int v_wordEnd, .int v_number])), (a_isWeekly, .inl (cZ, 40, .inl ga_)), (a_isDouble, .inl (cZ, 40, .inl gc_)), (a_giftDay, .inl (cI, 40, .inl gb_)), (a_giftFrom, .inl (cI, 40, .inl gd_))] := hD
        refine lv_aload_n hx hb dX12_gift_74 rfl (lv_at hl 0 rfl) ?_
        refine lv_dup hx hb dX12_gift_75 rfl ?_
        refine va_get (D := D) (ci := 11) (v := .int v_gifts) (C := RX12) (T := TX12) (N := 54) hx hb hts in_M_gift_X12 hown hK.1 hP 0 rfl rfl 4 (by decide) lk0 (fun _ h9 => h9) rfl dX12_gift_76 ?_
        refine lv_iconst (v := 1) hx hb dX12_gift_79 (by decide) ?_
        refine lv_iadd hx hb dX12_gift_80 ?_
        refine lv_topi (fun nn enn => ?_)
        first | have tnn := t_add enn (by omega) (by omega) | skip
        refine va_put (D := D) (ci := 11) (v := .int nn) (ty := .int) (C := RX12) (T := TX12) (N := 54) hx hb hts in_M_gift_X12 tyX12 tyX12_ok nmX12 hown hK.1 hP hD hS 0 rfl rfl 4 (by decide) lk0 (fun _ h9 => h9) rfl (by decide +kernel) rfl rfl (Nat.le_of_ble_eq_true rfl) dX12_gift_81 (fun H locs hP hD hS => ?_)
        have hP : va_P D vwCl [(h, .inr (11, [.int v_today, .int v_monks, .int v_aways, .int v_feasts, .int nn, .int v_leaves, .int v_lates, .int v_store, .int v_allCandles, .ref a_isPriest, .ref a_bars, .ref a_joined, .ref a_turns, .ref a_awayMonk, .ref a_awayFrom, .ref a_awayTo, .ref a_feastDay, .ref a_rank, .ref a_isWeekly, .ref a_isDouble, .ref a_giftDay, .ref a_giftFrom, .ref a_owed, .ref a_said, .ref a_spared, .ref a_leaveGift, .ref a_leaveFrom, .ref a_leaveTo, .ref a_lateDay, .ref a_lateOffice, .ref a_lateBy, .ref a_guests, .ref a_who, .ref a_used, .ref a_lacks, .ref a_candles, .ref a_masses, .ref a_owing, .ref a_heldOn, .ref a_waits, .ref a_tape, .ref a_text, .int v_taped, .int v_size, .int v_at, .int v_fault, .int v_rules, .ref a_statements, .ref a_taken, .ref a_sort, .ref a_first, .ref a_second, .int v_wordEnd, .int v_number])), (a_isWeekly, .inl (cZ, 40, .inl ga_)), (a_isDouble, .inl (cZ, 40, .inl gc_)), (a_giftDay, .inl (cI, 40, .inl gb_)), (a_giftFrom, .inl (cI, 40, .inl gd_))] H := hP
        have hD : va_D A [(h, .inr (11, [.int v_today, .int v_monks, .int v_aways, .int v_feasts, .int nn, .int v_leaves, .int v_lates, .int v_store, .int v_allCandles, .ref a_isPriest, .ref a_bars, .ref a_joined, .ref a_turns, .ref a_awayMonk, .ref a_awayFrom, .ref a_awayTo, .ref a_feastDay, .ref a_rank, .ref a_isWeekly, .ref a_isDouble, .ref a_giftDay, .ref a_giftFrom, .ref a_owed, .ref a_said, .ref a_spared, .ref a_leaveGift, .ref a_leaveFrom, .ref a_leaveTo, .ref a_lateDay, .ref a_lateOffice, .ref a_lateBy, .ref a_guests, .ref a_who, .ref a_used, .ref a_lacks, .ref a_candles, .ref a_masses, .ref a_owing, .ref a_heldOn, .ref a_waits, .ref a_tape, .ref a_text, .int v_taped, .int v_size, .int v_at, .int v_fault, .int v_rules, .ref a_statements, .ref a_taken, .ref a_sort, .ref a_first, .ref a_second, .int v_wordEnd, .int v_number])), (a_isWeekly, .inl (cZ, 40, .inl ga_)), (a_isDouble, .inl (cZ, 40, .inl gc_)), (a_giftDay, .inl (cI, 40, .inl gb_)), (a_giftFrom, .inl (cI, 40, .inl gd_))] := hD
        refine lv_aload_n hx hb dX12_gift_84 rfl (lv_at hl 0 rfl) ?_
        refine va_get (D := D) (ci := 11) (v := .int nn) (C := RX12) (T := TX12) (N := 54) hx hb hts in_M_gift_X12 hown hK.1 hP 0 rfl rfl 4 (by decide) lk0 (fun _ h9 => h9) rfl dX12_gift_85 ?_
        refine lv_iconst (v := 1) hx hb dX12_gift_88 (by decide) ?_
        refine lv_isub hx hb dX12_gift_89 ?_
        refine lv_topi (fun x_10 ex_10 => ?_)
        first | have tx_10 := t_sub ex_10 (by omega) (by omega) | skip
        exact hret x_10 (nn, ga_, gb_, gc_, gd_) _ _ _ _ (show ((((a.toInt ≠ 0 ∧ 0 ≤ n.toInt ∧ n.toInt ≤ 6) ∨ (a.toInt = 0 ∧ 0 ≤ n.toInt ∧ n.toInt ≤ 364)) ∧ v_gifts.toInt < 40) ∧ x_10.toInt = v_gifts.toInt ∧ nn = v_gifts + 1 ∧ ga_ = upd f_isWeekly v_gifts.toNatClampNeg (vp_nar .boolean a) ∧ gb_ = upd f_giftDay v_gifts.toNatClampNeg n ∧ gc_ = upd f_isDouble v_gifts.toNatClampNeg (vp_nar .boolean b) ∧ gd_ = upd f_giftFrom v_gifts.toNatClampNeg v_today) ∨ (¬ (((a.toInt ≠ 0 ∧ 0 ≤ n.toInt ∧ n.toInt ≤ 6) ∨ (a.toInt = 0 ∧ 0 ≤ n.toInt ∧ n.toInt ≤ 364)) ∧ v_gifts.toInt < 40) ∧ x_10.toInt = -1 ∧ nn = v_gifts ∧ ga_ = f_isWeekly ∧ gb_ = f_giftDay ∧ gc_ = f_isDouble ∧ gd_ = f_giftFrom) from by first | exact Or.inl ⟨by omega, by omega, enn, ega_, egb_, egc_, egd_⟩ | exact Or.inr ⟨by omega, by omega, rfl, rfl, rfl, rfl, rfl⟩) rfl (hP.sub [0, 1, 2, 3, 4] rfl) (hD.sub [0, 1, 2, 3, 4] (by decide +kernel) rfl) hS dX12_gift_90
      · have tc_4 := t_eq c_4
        refine lv_iconst (v := (-1)) hx hb dX12_gift_29 (by decide) ?_
        exact hret (-1) (v_gifts, f_isWeekly, f_giftDay, f_isDouble, f_giftFrom) _ _ _ _ (show ((((a.toInt ≠ 0 ∧ 0 ≤ n.toInt ∧ n.toInt ≤ 6) ∨ (a.toInt = 0 ∧ 0 ≤ n.toInt ∧ n.toInt ≤ 364)) ∧ v_gifts.toInt < 40) ∧ (-1 : Int32).toInt = v_gifts.toInt ∧ v_gifts = v_gifts + 1 ∧ f_isWeekly = upd f_isWeekly v_gifts.toNatClampNeg (vp_nar .boolean a) ∧ f_giftDay = upd f_giftDay v_gifts.toNatClampNeg n ∧ f_isDouble = upd f_isDouble v_gifts.toNatClampNeg (vp_nar .boolean b) ∧ f_giftFrom = upd f_giftFrom v_gifts.toNatClampNeg v_today) ∨ (¬ (((a.toInt ≠ 0 ∧ 0 ≤ n.toInt ∧ n.toInt ≤ 6) ∨ (a.toInt = 0 ∧ 0 ≤ n.toInt ∧ n.toInt ≤ 364)) ∧ v_gifts.toInt < 40) ∧ (-1 : Int32).toInt = -1 ∧ v_gifts = v_gifts ∧ f_isWeekly = f_isWeekly ∧ f_giftDay = f_giftDay ∧ f_isDouble = f_isDouble ∧ f_giftFrom = f_giftFrom) from by first | exact Or.inl ⟨by omega, by omega, enn, ega_, egb_, egc_, egd_⟩ | exact Or.inr ⟨by omega, by omega, rfl, rfl, rfl, rfl, rfl⟩) rfl (hP.sub [0, 1, 2, 3, 4] rfl) (hD.sub [0, 1, 2, 3, 4] (by decide +kernel) rfl) hS dX12_gift_30
  · have tc_1 := t_neq c_1
    refine lv_bipush (v := 6) hx hb dX12_gift_6 (by decide) ?_
    refine lv_goto (tgt := 14) hx hb dX12_gift_8 (by decide) ?_
    have hPc := hP.sub (ws' := []) [] rfl
    refine roS (As := [.int n, .int 0, .int 6]) (rest := []) S (m_isIn  ) (va_cwS 3 hts gX12_gift_X12_isIn rfl rfl rfl hd_X12_isIn ⟨Nat.le_of_ble_eq_true rfl, Nat.le_of_ble_eq_true rfl⟩) hK hPc rfl hl.1 rfl (Nat.le_of_ble_eq_true rfl) dX12_gift_14 ⟨Nat.le_of_ble_eq_true rfl, Nat.le_of_ble_eq_true rfl⟩ (fun r_11 hw_11 => ?_)
    have hw_11 : (r_11.toInt = 1 ∧ (0 : Int32).toInt ≤ n.toInt ∧ n.toInt ≤ (6 : Int32).toInt) ∨ (r_11.toInt = 0 ∧ (n.toInt < (0 : Int32).toInt ∨ (6 : Int32).toInt < n.toInt)) := hw_11
    refine lv_if_eq (tgt := 29) hx hb dX12_gift_17 (by decide) (fun c_12 => ?_) (fun c_12 => ?_)
    · have tc_12 := t_eq c_12
      refine lv_iconst (v := (-1)) hx hb dX12_gift_29 (by decide) ?_
      exact hret (-1) (v_gifts, f_isWeekly, f_giftDay, f_isDouble, f_giftFrom) _ _ _ _ (show ((((a.toInt ≠ 0 ∧ 0 ≤ n.toInt ∧ n.toInt ≤ 6) ∨ (a.toInt = 0 ∧ 0 ≤ n.toInt ∧ n.toInt ≤ 364)) ∧ v_gifts.toInt < 40) ∧ (-1 : Int32).toInt = v_gifts.toInt ∧ v_gifts = v_gifts + 1 ∧ f_isWeekly = upd f_isWeekly v_gifts.toNatClampNeg (vp_nar .boolean a) ∧ f_giftDay = upd f_giftDay v_gifts.toNatClampNeg n ∧ f_isDouble = upd f_isDouble v_gifts.toNatClampNeg (vp_nar .boolean b) ∧ f_giftFrom = upd f_giftFrom v_gifts.toNatClampNeg v_today) ∨ (¬ (((a.toInt ≠ 0 ∧ 0 ≤ n.toInt ∧ n.toInt ≤ 6) ∨ (a.toInt = 0 ∧ 0 ≤ n.toInt ∧ n.toInt ≤ 364)) ∧ v_gifts.toInt < 40) ∧ (-1 : Int32).toInt = -1 ∧ v_gifts = v_gifts ∧ f_isWeekly = f_isWeekly ∧ f_giftDay = f_giftDay ∧ f_isDouble = f_isDouble ∧ f_giftFrom = f_giftFrom) from by first | exact Or.inl ⟨by omega, by omega, enn, ega_, egb_, egc_, egd_⟩ | exact Or.inr ⟨by omega, by omega, rfl, rfl, rfl, rfl, rfl⟩) rfl (hP.sub [0, 1, 2, 3, 4] rfl) (hD.sub [0, 1, 2, 3, 4] (by decide +kernel) rfl) hS dX12_gift_30
    · have tc_12 := t_neq c_12
      refine lv_aload_n hx hb dX12_gift_20 rfl (lv_at hl 0 rfl) ?_
      refine va_get (D := D) (ci := 11) (v := .int v_gifts) (C := RX12) (T := TX12) (N := 54) hx hb hts in_M_gift_X12 hown hK.1 hP 0 rfl rfl 4 (by decide) lk0 (fun _ h9 => h9) rfl dX12_gift_21 ?_
      refine lv_bipush (v := 40) hx hb dX12_gift_24 (by decide) ?_
      refine lv_icmp_ne (tgt := 31) hx hb dX12_gift_26 (by decide) (fun c_13 => ?_) (fun c_13 => ?_)
      · have tc_13 := t_neq c_13
        refine lv_aload_n hx hb dX12_gift_31 rfl (lv_at hl 0 rfl) ?_
        refine va_get (D := D) (ci := 11) (v := .ref a_isWeekly) (C := RX12) (T := TX12) (N := 54) hx hb hts in_M_gift_X12 hown hK.1 hP 0 rfl rfl 18 (by decide) lk1 (fun _ h9 => h9) rfl dX12_gift_32 ?_
        refine lv_aload_n hx hb dX12_gift_35 rfl (lv_at hl 0 rfl) ?_
        refine va_get (D := D) (ci := 11) (v := .int v_gifts) (C := RX12) (T := TX12) (N := 54) hx hb hts in_M_gift_X12 hown hK.1 hP 0 rfl rfl 4 (by decide) lk0 (fun _ h9 => h9) rfl dX12_gift_36 ?_
        refine lv_iload_n hx hb dX12_gift_39 rfl (lv_at hl 1 rfl) ?_
        refine va_zast hx hb hK.1 hP hD hS 1 1 rfl rfl (t_in (by omega) (by omega)) dX12_gift_40 (fun H locs hP hD hS => ?_)
        obtain ⟨ga_, ega_⟩ : ∃ z : Nat → Int32, z = upd f_isWeekly ((v_gifts : Int32).toNatClampNeg) (vp_nar .boolean a) := ⟨_, rfl⟩
        rw [← ega_] at hP hD
        have hP : va_P D vwCl [(h, .inr (11, [.int v_today, .int v_monks, .int v_aways, .int v_feasts, .int v_gifts, .int v_leaves, .int v_lates, .int v_store, .int v_allCandles, .ref a_isPriest, .ref a_bars, .ref a_joined, .ref a_turns, .ref a_awayMonk, .ref a_awayFrom, .ref a_awayTo, .ref a_feastDay, .ref a_rank, .ref a_isWeekly, .ref a_isDouble, .ref a_giftDay, .ref a_giftFrom, .ref a_owed, .ref a_said, .ref a_spared, .ref a_leaveGift, .ref a_leaveFrom, .ref a_leaveTo, .ref a_lateDay, .ref a_lateOffice, .ref a_lateBy, .ref a_guests, .ref a_who, .ref a_used, .ref a_lacks, .ref a_candles, .ref a_masses, .ref a_owing, .ref a_heldOn, .ref a_waits, .ref a_tape, .ref a_text, .int v_taped, .int v_size, .int v_at, .int v_fault, .int v_rules, .ref a_statements, .ref a_taken, .ref a_sort, .ref a_first, .ref a_second, .int v_wordEnd, .int v_number])), (a_isWeekly, .inl (cZ, 40, .inl ga_)), (a_isDouble, .inl (cZ, 40, .inl f_isDouble)), (a_giftDay, .inl (cI, 40, .inl f_giftDay)), (a_giftFrom, .inl (cI, 40, .inl f_giftFrom))] H := hP
        have hD : va_D A [(h, .inr (11, [.int v_today, .int v_monks, .int v_aways, .int v_feasts, .int v_gifts, .int v_leaves, .int v_lates, .int v_store, .int v_allCandles, .ref a_isPriest, .ref a_bars, .ref a_joined, .ref a_turns, .ref a_awayMonk, .ref a_awayFrom, .ref a_awayTo, .ref a_feastDay, .ref a_rank, .ref a_isWeekly, .ref a_isDouble, .ref a_giftDay, .ref a_giftFrom, .ref a_owed, .ref a_said, .ref a_spared, .ref a_leaveGift, .ref a_leaveFrom, .ref a_leaveTo, .ref a_lateDay, .ref a_lateOffice, .ref a_lateBy, .ref a_guests, .ref a_who, .ref a_used, .ref a_lacks, .ref a_candles, .ref a_masses, .ref a_owing, .ref a_heldOn, .ref a_waits, .ref a_tape, .ref a_text, .int v_taped, .int v_size, .int v_at, .int v_fault, .int v_rules, .ref a_statements, .ref a_taken, .ref a_sort, .ref a_first, .ref a_second, .int v_wordEnd, .int v_number])), (a_isWeekly, .inl (cZ, 40, .inl ga_)), (a_isDouble, .inl (cZ, 40, .inl f_isDouble)), (a_giftDay, .inl (cI, 40, .inl f_giftDay)), (a_giftFrom, .inl (cI, 40, .inl f_giftFrom))] := hD
        refine lv_aload_n hx hb dX12_gift_41 rfl (lv_at hl 0 rfl) ?_
        refine va_get (D := D) (ci := 11) (v := .ref a_giftDay) (C := RX12) (T := TX12) (N := 54) hx hb hts in_M_gift_X12 hown hK.1 hP 0 rfl rfl 20 (by decide) lk2 (fun _ h9 => h9) rfl dX12_gift_42 ?_
        refine lv_aload_n hx hb dX12_gift_45 rfl (lv_at hl 0 rfl) ?_
        refine va_get (D := D) (ci := 11) (v := .int v_gifts) (C := RX12) (T := TX12) (N := 54) hx hb hts in_M_gift_X12 hown hK.1 hP 0 rfl rfl 4 (by decide) lk0 (fun _ h9 => h9) rfl dX12_gift_46 ?_
        refine lv_iload_n hx hb dX12_gift_49 rfl (lv_at hl 2 rfl) ?_
        refine va_iast hx hb hK.1 hP hD hS 3 0 rfl rfl (t_in (by omega) (by omega)) dX12_gift_50 (fun H locs hP hD hS => ?_)
        obtain ⟨gb_, egb_⟩ : ∃ z : Nat → Int32, z = upd f_giftDay ((v_gifts : Int32).toNatClampNeg) n := ⟨_, rfl⟩
        rw [← egb_] at hP hD
        have hP : va_P D vwCl [(h, .inr (11, [.int v_today, .int v_monks, .int v_aways, .int v_feasts, .int v_gifts, .int v_leaves, .int v_lates, .int v_store, .int v_allCandles, .ref a_isPriest, .ref a_bars, .ref a_joined, .ref a_turns, .ref a_awayMonk, .ref a_awayFrom, .ref a_awayTo, .ref a_feastDay, .ref a_rank, .ref a_isWeekly, .ref a_isDouble, .ref a_giftDay, .ref a_giftFrom, .ref a_owed, .ref a_said, .ref a_spared, .ref a_leaveGift, .ref a_leaveFrom, .ref a_leaveTo, .ref a_lateDay, .ref a_lateOffice, .ref a_lateBy, .ref a_guests, .ref a_who, .ref a_used, .ref a_lacks, .ref a_candles, .ref a_masses, .ref a_owing, .ref a_heldOn, .ref a_waits, .ref a_tape, .ref a_text, .int v_taped, .int v_size, .int v_at, .int v_fault, .int v_rules, .ref a_statements, .ref a_taken, .ref a_sort, .ref a_first, .ref a_second, .int v_wordEnd, .int v_number])), (a_isWeekly, .inl (cZ, 40, .inl ga_)), (a_isDouble, .inl (cZ, 40, .inl f_isDouble)), (a_giftDay, .inl (cI, 40, .inl gb_)), (a_giftFrom, .inl (cI, 40, .inl f_giftFrom))] H := hP
        have hD : va_D A [(h, .inr (11, [.int v_today, .int v_monks, .int v_aways, .int v_feasts, .int v_gifts, .int v_leaves, .int v_lates, .int v_store, .int v_allCandles, .ref a_isPriest, .ref a_bars, .ref a_joined, .ref a_turns, .ref a_awayMonk, .ref a_awayFrom, .ref a_awayTo, .ref a_feastDay, .ref a_rank, .ref a_isWeekly, .ref a_isDouble, .ref a_giftDay, .ref a_giftFrom, .ref a_owed, .ref a_said, .ref a_spared, .ref a_leaveGift, .ref a_leaveFrom, .ref a_leaveTo, .ref a_lateDay, .ref a_lateOffice, .ref a_lateBy, .ref a_guests, .ref a_who, .ref a_used, .ref a_lacks, .ref a_candles, .ref a_masses, .ref a_owing, .ref a_heldOn, .ref a_waits, .ref a_tape, .ref a_text, .int v_taped, .int v_size, .int v_at, .int v_fault, .int v_rules, .ref a_statements, .ref a_taken, .ref a_sort, .ref a_first, .ref a_second, .int v_wordEnd, .int v_number])), (a_isWeekly, .inl (cZ, 40, .inl ga_)), (a_isDouble, .inl (cZ, 40, .inl f_isDouble)), (a_giftDay, .inl (cI, 40, .inl gb_)), (a_giftFrom, .inl (cI, 40, .inl f_giftFrom))] := hD
        refine lv_aload_n hx hb dX12_gift_51 rfl (lv_at hl 0 rfl) ?_
        refine va_get (D := D) (ci := 11) (v := .ref a_isDouble) (C := RX12) (T := TX12) (N := 54) hx hb hts in_M_gift_X12 hown hK.1 hP 0 rfl rfl 19 (by decide) lk3 (fun _ h9 => h9) rfl dX12_gift_52 ?_
        refine lv_aload_n hx hb dX12_gift_55 rfl (lv_at hl 0 rfl) ?_
        refine va_get (D := D) (ci := 11) (v := .int v_gifts) (C := RX12) (T := TX12) (N := 54) hx hb hts in_M_gift_X12 hown hK.1 hP 0 rfl rfl 4 (by decide) lk0 (fun _ h9 => h9) rfl dX12_gift_56 ?_
        refine lv_iload_n hx hb dX12_gift_59 rfl (lv_at hl 3 rfl) ?_
        refine va_zast hx hb hK.1 hP hD hS 2 1 rfl rfl (t_in (by omega) (by omega)) dX12_gift_60 (fun H locs hP hD hS => ?_)
        obtain ⟨gc_, egc_⟩ : ∃ z : Nat → Int32, z = upd f_isDouble ((v_gifts : Int32).toNatClampNeg) (vp_nar .boolean b) := ⟨_, rfl⟩
        rw [← egc_] at hP hD
        have hP : va_P D vwCl [(h, .inr (11, [.int v_today, .int v_monks, .int v_aways, .int v_feasts, .int v_gifts, .int v_leaves, .int v_lates, .int v_store, .int v_allCandles, .ref a_isPriest, .ref a_bars, .ref a_joined, .ref a_turns, .ref a_awayMonk, .ref a_awayFrom, .ref a_awayTo, .ref a_feastDay, .ref a_rank, .ref a_isWeekly, .ref a_isDouble, .ref a_giftDay, .ref a_giftFrom, .ref a_owed, .ref a_said, .ref a_spared, .ref a_leaveGift, .ref a_leaveFrom, .ref a_leaveTo, .ref a_lateDay, .ref a_lateOffice, .ref a_lateBy, .ref a_guests, .ref a_who, .ref a_used, .ref a_lacks, .ref a_candles, .ref a_masses, .ref a_owing, .ref a_heldOn, .ref a_waits, .ref a_tape, .ref a_text, .int v_taped, .int v_size, .int v_at, .int v_fault, .int v_rules, .ref a_statements, .ref a_taken, .ref a_sort, .ref a_first, .ref a_second, .int v_wordEnd, .int v_number])), (a_isWeekly, .inl (cZ, 40, .inl ga_)), (a_isDouble, .inl (cZ, 40, .inl gc_)), (a_giftDay, .inl (cI, 40, .inl gb_)), (a_giftFrom, .inl (cI, 40, .inl f_giftFrom))] H := hP
        have hD : va_D A [(h, .inr (11, [.int v_today, .int v_monks, .int v_aways, .int v_feasts, .int v_gifts, .int v_leaves, .int v_lates, .int v_store, .int v_allCandles, .ref a_isPriest, .ref a_bars, .ref a_joined, .ref a_turns, .ref a_awayMonk, .ref a_awayFrom, .ref a_awayTo, .ref a_feastDay, .ref a_rank, .ref a_isWeekly, .ref a_isDouble, .ref a_giftDay, .ref a_giftFrom, .ref a_owed, .ref a_said, .ref a_spared, .ref a_leaveGift, .ref a_leaveFrom, .ref a_leaveTo, .ref a_lateDay, .ref a_lateOffice, .ref a_lateBy, .ref a_guests, .ref a_who, .ref a_used, .ref a_lacks, .ref a_candles, .ref a_masses, .ref a_owing, .ref a_heldOn, .ref a_waits, .ref a_tape, .ref a_text, .int v_taped, .int v_size, .int v_at, .int v_fault, .int v_rules, .ref a_statements, .ref a_taken, .ref a_sort, .ref a_first, .ref a_second, .int v_wordEnd, .int v_number])), (a_isWeekly, .inl (cZ, 40, .inl ga_)), (a_isDouble, .inl (cZ, 40, .inl gc_)), (a_giftDay, .inl (cI, 40, .inl gb_)), (a_giftFrom, .inl (cI, 40, .inl f_giftFrom))] := hD
        refine lv_aload_n hx hb dX12_gift_61 rfl (lv_at hl 0 rfl) ?_
        refine va_get (D := D) (ci := 11) (v := .ref a_giftFrom) (C := RX12) (T := TX12) (N := 54) hx hb hts in_M_gift_X12 hown hK.1 hP 0 rfl rfl 21 (by decide) lk4 (fun _ h9 => h9) rfl dX12_gift_62 ?_
        refine lv_aload_n hx hb dX12_gift_65 rfl (lv_at hl 0 rfl) ?_
        refine va_get (D := D) (ci := 11) (v := .int v_gifts) (C := RX12) (T := TX12) (N := 54) hx hb hts in_M_gift_X12 hown hK.1 hP 0 rfl rfl 4 (by decide) lk0 (fun _ h9 => h9) rfl dX12_gift_66 ?_
        refine lv_aload_n hx hb dX12_gift_69 rfl (lv_at hl 0 rfl) ?_
        refine va_get (D := D) (ci := 11) (v := .int v_today) (C := RX12) (T := TX12) (N := 54) hx hb hts in_M_gift_X12 hown hK.1 hP 0 rfl rfl 0 (by decide) lk5 (fun _ h9 => h9) rfl dX12_gift_70 ?_
        refine va_iast hx hb hK.1 hP hD hS 4 0 rfl rfl (t_in (by omega) (by omega)) dX12_gift_73 (fun H locs hP hD hS => ?_)
        obtain ⟨gd_, egd_⟩ : ∃ z : Nat → Int32, z = upd f_giftFrom ((v_gifts : Int32).toNatClampNeg) v_today := ⟨_, rfl⟩
        rw [← egd_] at hP hD
        have hP : va_P D vwCl [(h, .inr (11, [.int v_today, .int v_monks, .int v_aways, .int v_feasts, .int v_gifts, .int v_leaves, .int v_lates, .int v_store, .int v_allCandles, .ref a_isPriest, .ref a_bars, .ref a_joined, .ref a_turns, .ref a_awayMonk, .ref a_awayFrom, .ref a_awayTo, .ref a_feastDay, .ref a_rank, .ref a_isWeekly, .ref a_isDouble, .ref a_giftDay, .ref a_giftFrom, .ref a_owed, .ref a_said, .ref a_spared, .ref a_leaveGift, .ref a_leaveFrom, .ref a_leaveTo, .ref a_lateDay, .ref a_lateOffice, .ref a_lateBy, .ref a_guests, .ref a_who, .ref a_used, .ref a_lacks, .ref a_candles, .ref a_masses, .ref a_owing, .ref a_heldOn, .ref a_waits, .ref a_tape, .ref a_text, .int v_taped, .int v_size, .int v_at, .int v_fault, .int v_rules, .ref a_statements, .ref a_taken, .ref a_sort, .ref a_first, .ref a_second, .int v_wordEnd, .int v_number])), (a_isWeekly, .inl (cZ, 40, .inl ga_)), (a_isDouble, .inl (cZ, 40, .inl gc_)), (a_giftDay, .inl (cI, 40, .inl gb_)), (a_giftFrom, .inl (cI, 40, .inl gd_))] H := hP
        have hD : va_D A [(h, .inr (11, [.int v_today, .int v_monks, .int v_aways, .int v_feasts, .int v_gifts, .int v_leaves, .int v_lates, .int v_store, .int v_allCandles, .ref a_isPriest, .ref a_bars, .ref a_joined, .ref a_turns, .ref a_awayMonk, .ref a_awayFrom, .ref a_awayTo, .ref a_feastDay, .ref a_rank, .ref a_isWeekly, .ref a_isDouble, .ref a_giftDay, .ref a_giftFrom, .ref a_owed, .ref a_said, .ref a_spared, .ref a_leaveGift, .ref a_leaveFrom, .ref a_leaveTo, .ref a_lateDay, .ref a_lateOffice, .ref a_lateBy, .ref a_guests, .ref a_who, .ref a_used, .ref a_lacks, .ref a_candles, .ref a_masses, .ref a_owing, .ref a_heldOn, .ref a_waits, .ref a_tape, .ref a_text, .int v_taped, .int v_size, .int v_at, .int v_fault, .int v_rules, .ref a_statements, .ref a_taken, .ref a_sort, .ref a_first, .ref a_second, .int v_wordEnd, .int v_number])), (a_isWeekly, .inl (cZ, 40, .inl ga_)), (a_isDouble, .inl (cZ, 40, .inl gc_)), (a_giftDay, .inl (cI, 40, .inl gb_)), (a_giftFrom, .inl (cI, 40, .inl gd_))] := hD
        refine lv_aload_n hx hb dX12_gift_74 rfl (lv_at hl 0 rfl) ?_
        refine lv_dup hx hb dX12_gift_75 rfl ?_
        refine va_get (D := D) (ci := 11) (v := .int v_gifts) (C := RX12) (T := TX12) (N := 54) hx hb hts in_M_gift_X12 hown hK.1 hP 0 rfl rfl 4 (by decide) lk0 (fun _ h9 => h9) rfl dX12_gift_76 ?_
        refine lv_iconst (v := 1) hx hb dX12_gift_79 (by decide) ?_
        refine lv_iadd hx hb dX12_gift_80 ?_
        refine lv_topi (fun nn enn => ?_)
        first | have tnn := t_add enn (by omega) (by omega) | skip
        refine va_put (D := D) (ci := 11) (v := .int nn) (ty := .int) (C := RX12) (T := TX12) (N := 54) hx hb hts in_M_gift_X12 tyX12 tyX12_ok nmX12 hown hK.1 hP hD hS 0 rfl rfl 4 (by decide) lk0 (fun _ h9 => h9) rfl (by decide +kernel) rfl rfl (Nat.le_of_ble_eq_true rfl) dX12_gift_81 (fun H locs hP hD hS => ?_)
        have hP : va_P D vwCl [(h, .inr (11, [.int v_today, .int v_monks, .int v_aways, .int v_feasts, .int nn, .int v_leaves, .int v_lates, .int v_store, .int v_allCandles, .ref a_isPriest, .ref a_bars, .ref a_joined, .ref a_turns, .ref a_awayMonk, .ref a_awayFrom, .ref a_awayTo, .ref a_feastDay, .ref a_rank, .ref a_isWeekly, .ref a_isDouble, .ref a_giftDay, .ref a_giftFrom, .ref a_owed, .ref a_said, .ref a_spared, .ref a_leaveGift, .ref a_leaveFrom, .ref a_leaveTo, .ref a_lateDay, .ref a_lateOffice, .ref a_lateBy, .ref a_guests, .ref a_who, .ref a_used, .ref a_lacks, .ref a_candles, .ref a_masses, .ref a_owing, .ref a_heldOn, .ref a_waits, .ref a_tape, .ref a_text, .int v_taped, .int v_size, .int v_at, .int v_fault, .int v_rules, .ref a_statements, .ref a_taken, .ref a_sort, .ref a_first, .ref a_second, .int v_wordEnd, .int v_number])), (a_isWeekly, .inl (cZ, 40, .inl ga_)), (a_isDouble, .inl (cZ, 40, .inl gc_)), (a_giftDay, .inl (cI, 40, .inl gb_)), (a_giftFrom, .inl (cI, 40, .inl gd_))] H := hP
        have hD : va_D A [(h, .inr (11, [.int v_today, .int v_monks, .int v_aways, .int v_feasts, .int nn, .int v_leaves, .int v_lates, .int v_store, .int v_allCandles, .ref a_isPriest, .ref a_bars, .ref a_joined, .ref a_turns, .ref a_awayMonk, .ref a_awayFrom, .ref a_awayTo, .ref a_feastDay, .ref a_rank, .ref a_isWeekly, .ref a_isDouble, .ref a_giftDay, .ref a_giftFrom, .ref a_owed, .ref a_said, .ref a_spared, .ref a_leaveGift, .ref a_leaveFrom, .ref a_leaveTo, .ref a_lateDay, .ref a_lateOffice, .ref a_lateBy, .ref a_guests, .ref a_who, .ref a_used, .ref a_lacks, .ref a_candles, .ref a_masses, .ref a_owing, .ref a_heldOn, .ref a_waits, .ref a_tape, .ref a_text, .int v_taped, .int v_size, .int v_at, .int v_fault, .int v_rules, .ref a_statements, .ref a_taken, .ref a_sort, .ref a_first, .ref a_second, .int v_wordEnd, .int v_number])), (a_isWeekly, .inl (cZ, 40, .inl ga_)), (a_isDouble, .inl (cZ, 40, .inl gc_)), (a_giftDay, .inl (cI, 40, .inl gb_)), (a_giftFrom, .inl (cI, 40, .inl gd_))] := hD
        refine lv_aload_n hx hb dX12_gift_84 rfl (lv_at hl 0 rfl) ?_
        refine va_get (D := D) (ci := 11) (v := .int nn) (C := RX12) (T := TX12) (N := 54) hx hb hts in_M_gift_X12 hown hK.1 hP 0 rfl rfl 4 (by decide) lk0 (fun _ h9 => h9) rfl dX12_gift_85 ?_
        refine lv_iconst (v := 1) hx hb dX12_gift_88 (by decide) ?_
        refine lv_isub hx hb dX12_gift_89 ?_
        refine lv_topi (fun x_19 ex_19 => ?_)
        first | have tx_19 := t_sub ex_19 (by omega) (by omega) | skip
        exact hret x_19 (nn, ga_, gb_, gc_, gd_) _ _ _ _ (show ((((a.toInt ≠ 0 ∧ 0 ≤ n.toInt ∧ n.toInt ≤ 6) ∨ (a.toInt = 0 ∧ 0 ≤ n.toInt ∧ n.toInt ≤ 364)) ∧ v_gifts.toInt < 40) ∧ x_19.toInt = v_gifts.toInt ∧ nn = v_gifts + 1 ∧ ga_ = upd f_isWeekly v_gifts.toNatClampNeg (vp_nar .boolean a) ∧ gb_ = upd f_giftDay v_gifts.toNatClampNeg n ∧ gc_ = upd f_isDouble v_gifts.toNatClampNeg (vp_nar .boolean b) ∧ gd_ = upd f_giftFrom v_gifts.toNatClampNeg v_today) ∨ (¬ (((a.toInt ≠ 0 ∧ 0 ≤ n.toInt ∧ n.toInt ≤ 6) ∨ (a.toInt = 0 ∧ 0 ≤ n.toInt ∧ n.toInt ≤ 364)) ∧ v_gifts.toInt < 40) ∧ x_19.toInt = -1 ∧ nn = v_gifts ∧ ga_ = f_isWeekly ∧ gb_ = f_giftDay ∧ gc_ = f_isDouble ∧ gd_ = f_giftFrom) from by first | exact Or.inl ⟨by omega, by omega, enn, ega_, egb_, egc_, egd_⟩ | exact Or.inr ⟨by omega, by omega, rfl, rfl, rfl, rfl, rfl⟩) rfl (hP.sub [0, 1, 2, 3, 4] rfl) (hD.sub [0, 1, 2, 3, 4] (by decide +kernel) rfl) hS dX12_gift_90
      · have tc_13 := t_eq c_13
        refine lv_iconst (v := (-1)) hx hb dX12_gift_29 (by decide) ?_
        exact hret (-1) (v_gifts, f_isWeekly, f_giftDay, f_isDouble, f_giftFrom) _ _ _ _ (show ((((a.toInt ≠ 0 ∧ 0 ≤ n.toInt ∧ n.toInt ≤ 6) ∨ (a.toInt = 0 ∧ 0 ≤ n.toInt ∧ n.toInt ≤ 364)) ∧ v_gifts.toInt < 40) ∧ (-1 : Int32).toInt = v_gifts.toInt ∧ v_gifts = v_gifts + 1 ∧ f_isWeekly = upd f_isWeekly v_gifts.toNatClampNeg (vp_nar .boolean a) ∧ f_giftDay = upd f_giftDay v_gifts.toNatClampNeg n ∧ f_isDouble = upd f_isDouble v_gifts.toNatClampNeg (vp_nar .boolean b) ∧ f_giftFrom = upd f_giftFrom v_gifts.toNatClampNeg v_today) ∨ (¬ (((a.toInt ≠ 0 ∧ 0 ≤ n.toInt ∧ n.toInt ≤ 6) ∨ (a.toInt = 0 ∧ 0 ≤ n.toInt ∧ n.toInt ≤ 364)) ∧ v_gifts.toInt < 40) ∧ (-1 : Int32).toInt = -1 ∧ v_gifts = v_gifts ∧ f_isWeekly = f_isWeekly ∧ f_giftDay = f_giftDay ∧ f_isDouble = f_isDouble ∧ f_giftFrom = f_giftFrom) from by first | exact Or.inl ⟨by omega, by omega, enn, ega_, egb_, egc_, egd_⟩ | exact Or.inr ⟨by omega, by omega, rfl, rfl, rfl, rfl, rfl⟩) rfl (hP.sub [0, 1, 2, 3, 4] rfl) (hD.sub [0, 1, 2, 3, 4] (by decide +kernel) rfl) hS dX12_gift_30

theorem in_e_spare_X4 : ∀ w ∈ wsX40, w ∈ wsX4_spare := tl_X4_spare_X4
set_option maxHeartbeats 8000000 in
set_option maxRecDepth 100000 in
theorem e_spare {l : Launch} {D : va_G} {cI cZ cB : ClassId} {sz : Nat} {h a_weekly a_doubled a_dueOn a_owed a_said a_spared a_leaveOf a_leaveFrom a_leaveTo : Nat} {v_size v_rows : Int32} {f_leaveOf f_leaveFrom f_leaveTo : Nat → Int32} {px q t : Int32} (hv_rows0 : 0 ≤ v_rows.toInt) (hv_rows1 : v_rows.toInt ≤ 40) : Met l yX4_spare wsX4_spare ({ frames := 0, cells := 0, slots := 0, locals := 0 }) (RW D cI cZ cB [.ref h, .int px, .int q, .int t] sz [(h, .inr (4, [.ref a_weekly, .ref a_doubled, .ref a_dueOn, .ref a_owed, .ref a_said, .ref a_spared, .ref a_leaveOf, .ref a_leaveFrom, .ref a_leaveTo, .int v_size, .int v_rows])), (a_leaveOf, .inl (cI, 40, .inl f_leaveOf)), (a_leaveFrom, .inl (cI, 40, .inl f_leaveFrom)), (a_leaveTo, .inl (cI, 40, .inl f_leaveTo))]) (va_Qi (fun (r : Int32) (u : Int32 × (Nat → Int32) × (Nat → Int32) × (Nat → Int32)) => ((v_rows.toInt < 40) ∧ r.toInt = v_rows.toInt + 1 ∧ u.1 = v_rows + 1 ∧ u.2.1 = upd f_leaveOf v_rows.toNatClampNeg px ∧ u.2.2.1 = upd f_leaveFrom v_rows.toNatClampNeg q ∧ u.2.2.2 = upd f_leaveTo v_rows.toNatClampNeg t) ∨ (¬ (v_rows.toInt < 40) ∧ r.toInt = -1 ∧ u.1 = v_rows ∧ u.2.1 = f_leaveOf ∧ u.2.2.1 = f_leaveFrom ∧ u.2.2.2 = f_leaveTo)) (BW D [(h, .inr (4, [.ref a_weekly, .ref a_doubled, .ref a_dueOn, .ref a_owed, .ref a_said, .ref a_spared, .ref a_leaveOf, .ref a_leaveFrom, .ref a_leaveTo, .int v_size, .int v_rows])), (a_leaveOf, .inl (cI, 40, .inl f_leaveOf)), (a_leaveFrom, .inl (cI, 40, .inl f_leaveFrom)), (a_leaveTo, .inl (cI, 40, .inl f_leaveTo))] sz (fun u : Int32 × (Nat → Int32) × (Nat → Int32) × (Nat → Int32) => [(h, .inr (4, [.ref a_weekly, .ref a_doubled, .ref a_dueOn, .ref a_owed, .ref a_said, .ref a_spared, .ref a_leaveOf, .ref a_leaveFrom, .ref a_leaveTo, .int v_size, .int u.1])), (a_leaveOf, .inl (cI, 40, .inl u.2.1)), (a_leaveFrom, .inl (cI, 40, .inl u.2.2.1)), (a_leaveTo, .inl (cI, 40, .inl u.2.2.2))])) (va_A [(h, .inr (4, [.ref a_weekly, .ref a_doubled, .ref a_dueOn, .ref a_owed, .ref a_said, .ref a_spared, .ref a_leaveOf, .ref a_leaveFrom, .ref a_leaveTo, .int v_size, .int v_rows])), (a_leaveOf, .inl (cI, 40, .inl f_leaveOf)), (a_leaveFrom, .inl (cI, 40, .inl f_leaveFrom)), (a_leaveTo, .inl (cI, 40, .inl f_leaveTo))] sz)) 0 (0) (va_A [(h, .inr (4, [.ref a_weekly, .ref a_doubled, .ref a_dueOn, .ref a_owed, .ref a_said, .ref a_spared, .ref a_leaveOf, .ref a_leaveFrom, .ref a_leaveTo, .int v_size, .int v_rows])), (a_leaveOf, .inl (cI, 40, .inl f_leaveOf)), (a_leaveFrom, .inl (cI, 40, .inl f_leaveFrom)), (a_leaveTo, .inl (cI, 40, .inl f_leaveTo))] sz) := by
  refine rw_ret (cc := cX4_spare) (maxL := 4) (ty := .int) (own := RX4) (by decide) rfl rfl (Nat.le_of_ble_eq_true rfl) ?_
  intro p e s m args below meth c Q A S hin hret hP hK hD hA hS ls hl
  obtain ⟨hx, hb, hml, hown, hts⟩ := id S
  have hl : lv_has ls 4 [(0, .ref h), (1, .int px), (2, .int q), (3, .int t)] := hl
  have kkm1 : (-1 : Int32).toInt = -1 := by decide
  have kk0 : (0 : Int32).toInt = 0 := by decide
  have kk1 : (1 : Int32).toInt = 1 := by decide
  have kk40 : (40 : Int32).toInt = 40 := by decide
  have lk0 := hts (.fieldLink RX4 44 "AbbeyHours$Gifts" "rows" "I") (List.mem_cons_of_mem _ (List.mem_append_left _ (List.mem_of_getElem? (i := 0) rfl)))
  have lk1 := hts (.fieldLink RX4 31 "AbbeyHours$Gifts" "leaveOf" "[I") (List.mem_cons_of_mem _ (List.mem_append_left _ (List.mem_of_getElem? (i := 1) rfl)))
  have lk2 := hts (.fieldLink RX4 34 "AbbeyHours$Gifts" "leaveFrom" "[I") (List.mem_cons_of_mem _ (List.mem_append_left _ (List.mem_of_getElem? (i := 2) rfl)))
  have lk3 := hts (.fieldLink RX4 37 "AbbeyHours$Gifts" "leaveTo" "[I") (List.mem_cons_of_mem _ (List.mem_append_left _ (List.mem_of_getElem? (i := 3) rfl)))
  refine lv_aload_n hx hb dX4_spare_0 rfl (lv_at hl 0 rfl) ?_
  refine va_get (D := D) (ci := 4) (v := .int v_rows) (C := RX4) (T := TX4) (N := 11) hx hb hts in_e_spare_X4 hown hK.1 hP 0 rfl rfl 10 (by decide) lk0 (fun _ h9 => h9) rfl dX4_spare_1 ?_
  refine lv_bipush (v := 40) hx hb dX4_spare_4 (by decide) ?_
  refine lv_icmp_lt (tgt := 11) hx hb dX4_spare_6 (by decide) (fun c_1 => ?_) (fun c_1 => ?_)
  · have tc_1 := t_lt c_1
    refine lv_aload_n hx hb dX4_spare_11 rfl (lv_at hl 0 rfl) ?_
    refine va_get (D := D) (ci := 4) (v := .ref a_leaveOf) (C := RX4) (T := TX4) (N := 11) hx hb hts in_e_spare_X4 hown hK.1 hP 0 rfl rfl 6 (by decide) lk1 (fun _ h9 => h9) rfl dX4_spare_12 ?_
    refine lv_aload_n hx hb dX4_spare_15 rfl (lv_at hl 0 rfl) ?_
    refine va_get (D := D) (ci := 4) (v := .int v_rows) (C := RX4) (T := TX4) (N := 11) hx hb hts in_e_spare_X4 hown hK.1 hP 0 rfl rfl 10 (by decide) lk0 (fun _ h9 => h9) rfl dX4_spare_16 ?_
    refine lv_iload_n hx hb dX4_spare_19 rfl (lv_at hl 1 rfl) ?_
    refine va_iast hx hb hK.1 hP hD hS 1 0 rfl rfl (t_in (by omega) (by omega)) dX4_spare_20 (fun H locs hP hD hS => ?_)
    obtain ⟨ga_, ega_⟩ : ∃ z : Nat → Int32, z = upd f_leaveOf ((v_rows : Int32).toNatClampNeg) px := ⟨_, rfl⟩
    rw [← ega_] at hP hD
    have hP : va_P D vwCl [(h, .inr (4, [.ref a_weekly, .ref a_doubled, .ref a_dueOn, .ref a_owed, .ref a_said, .ref a_spared, .ref a_leaveOf, .ref a_leaveFrom, .ref a_leaveTo, .int v_size, .int v_rows])), (a_leaveOf, .inl (cI, 40, .inl ga_)), (a_leaveFrom, .inl (cI, 40, .inl f_leaveFrom)), (a_leaveTo, .inl (cI, 40, .inl f_leaveTo))] H := hP
    have hD : va_D A [(h, .inr (4, [.ref a_weekly, .ref a_doubled, .ref a_dueOn, .ref a_owed, .ref a_said, .ref a_spared, .ref a_leaveOf, .ref a_leaveFrom, .ref a_leaveTo, .int v_size, .int v_rows])), (a_leaveOf, .inl (cI, 40, .inl ga_)), (a_leaveFrom, .inl (cI, 40, .inl f_leaveFrom)), (a_leaveTo, .inl (cI, 40, .inl f_leaveTo))] := hD
    refine lv_aload_n hx hb dX4_spare_21 rfl (lv_at hl 0 rfl) ?_
    refine va_get (D := D) (ci := 4) (v := .ref a_leaveFrom) (C := RX4) (T := TX4) (N := 11) hx hb hts in_e_spare_X4 hown hK.1 hP 0 rfl rfl 7 (by decide) lk2 (fun _ h9 => h9) rfl dX4_spare_22 ?_
    refine lv_aload_n hx hb dX4_spare_25 rfl (lv_at hl 0 rfl) ?_
    refine va_get (D := D) (ci := 4) (v := .int v_rows) (C := RX4) (T := TX4) (N := 11) hx hb hts in_e_spare_X4 hown hK.1 hP 0 rfl rfl 10 (by decide) lk0 (fun _ h9 => h9) rfl dX4_spare_26 ?_
    refine lv_iload_n hx hb dX4_spare_29 rfl (lv_at hl 2 rfl) ?_
    refine va_iast hx hb hK.1 hP hD hS 2 0 rfl rfl (t_in (by omega) (by omega)) dX4_spare_30 (fun H locs hP hD hS => ?_)
    obtain ⟨gb_, egb_⟩ : ∃ z : Nat → Int32, z = upd f_leaveFrom ((v_rows : Int32).toNatClampNeg) q := ⟨_, rfl⟩
    rw [← egb_] at hP hD
    have hP : va_P D vwCl [(h, .inr (4, [.ref a_weekly, .ref a_doubled, .ref a_dueOn, .ref a_owed, .ref a_said, .ref a_spared, .ref a_leaveOf, .ref a_leaveFrom, .ref a_leaveTo, .int v_size, .int v_rows])), (a_leaveOf, .inl (cI, 40, .inl ga_)), (a_leaveFrom, .inl (cI, 40, .inl gb_)), (a_leaveTo, .inl (cI, 40, .inl f_leaveTo))] H := hP
    have hD : va_D A [(h, .inr (4, [.ref a_weekly, .ref a_doubled, .ref a_dueOn, .ref a_owed, .ref a_said, .ref a_spared, .ref a_leaveOf, .ref a_leaveFrom, .ref a_leaveTo, .int v_size, .int v_rows])), (a_leaveOf, .inl (cI, 40, .inl ga_)), (a_leaveFrom, .inl (cI, 40, .inl gb_)), (a_leaveTo, .inl (cI, 40, .inl f_leaveTo))] := hD
    refine lv_aload_n hx hb dX4_spare_31 rfl (lv_at hl 0 rfl) ?_
    refine va_get (D := D) (ci := 4) (v := .ref a_leaveTo) (C := RX4) (T := TX4) (N := 11) hx hb hts in_e_spare_X4 hown hK.1 hP 0 rfl rfl 8 (by decide) lk3 (fun _ h9 => h9) rfl dX4_spare_32 ?_
    refine lv_aload_n hx hb dX4_spare_35 rfl (lv_at hl 0 rfl) ?_
    refine va_get (D := D) (ci := 4) (v := .int v_rows) (C := RX4) (T := TX4) (N := 11) hx hb hts in_e_spare_X4 hown hK.1 hP 0 rfl rfl 10 (by decide) lk0 (fun _ h9 => h9) rfl dX4_spare_36 ?_
    refine lv_iload_n hx hb dX4_spare_39 rfl (lv_at hl 3 rfl) ?_
    refine va_iast hx hb hK.1 hP hD hS 3 0 rfl rfl (t_in (by omega) (by omega)) dX4_spare_40 (fun H locs hP hD hS => ?_)
    obtain ⟨gc_, egc_⟩ : ∃ z : Nat → Int32, z = upd f_leaveTo ((v_rows : Int32).toNatClampNeg) t := ⟨_, rfl⟩
    rw [← egc_] at hP hD
    have hP : va_P D vwCl [(h, .inr (4, [.ref a_weekly, .ref a_doubled, .ref a_dueOn, .ref a_owed, .ref a_said, .ref a_spared, .ref a_leaveOf, .ref a_leaveFrom, .ref a_leaveTo, .int v_size, .int v_rows])), (a_leaveOf, .inl (cI, 40, .inl ga_)), (a_leaveFrom, .inl (cI, 40, .inl gb_)), (a_leaveTo, .inl (cI, 40, .inl gc_))] H := hP
    have hD : va_D A [(h, .inr (4, [.ref a_weekly, .ref a_doubled, .ref a_dueOn, .ref a_owed, .ref a_said, .ref a_spared, .ref a_leaveOf, .ref a_leaveFrom, .ref a_leaveTo, .int v_size, .int v_rows])), (a_leaveOf, .inl (cI, 40, .inl ga_)), (a_leaveFrom, .inl (cI, 40, .inl gb_)), (a_leaveTo, .inl (cI, 40, .inl gc_))] := hD
    refine lv_aload_n hx hb dX4_spare_41 rfl (lv_at hl 0 rfl) ?_
    refine lv_dup hx hb dX4_spare_42 rfl ?_
    refine va_get (D := D) (ci := 4) (v := .int v_rows) (C := RX4) (T := TX4) (N := 11) hx hb hts in_e_spare_X4 hown hK.1 hP 0 rfl rfl 10 (by decide) lk0 (fun _ h9 => h9) rfl dX4_spare_43 ?_
    refine lv_iconst (v := 1) hx hb dX4_spare_46 (by decide) ?_
    refine lv_iadd hx hb dX4_spare_47 ?_
    refine lv_topi (fun nn enn => ?_)
    first | have tnn := t_add enn (by omega) (by omega) | skip
    refine va_put (D := D) (ci := 4) (v := .int nn) (ty := .int) (C := RX4) (T := TX4) (N := 11) hx hb hts in_e_spare_X4 tyX4 tyX4_ok nmX4 hown hK.1 hP hD hS 0 rfl rfl 10 (by decide) lk0 (fun _ h9 => h9) rfl (by decide +kernel) rfl rfl (Nat.le_of_ble_eq_true rfl) dX4_spare_48 (fun H locs hP hD hS => ?_)
    have hP : va_P D vwCl [(h, .inr (4, [.ref a_weekly, .ref a_doubled, .ref a_dueOn, .ref a_owed, .ref a_said, .ref a_spared, .ref a_leaveOf, .ref a_leaveFrom, .ref a_leaveTo, .int v_size, .int nn])), (a_leaveOf, .inl (cI, 40, .inl ga_)), (a_leaveFrom, .inl (cI, 40, .inl gb_)), (a_leaveTo, .inl (cI, 40, .inl gc_))] H := hP
    have hD : va_D A [(h, .inr (4, [.ref a_weekly, .ref a_doubled, .ref a_dueOn, .ref a_owed, .ref a_said, .ref a_spared, .ref a_leaveOf, .ref a_leaveFrom, .ref a_leaveTo, .int v_size, .int nn])), (a_leaveOf, .inl (cI, 40, .inl ga_)), (a_leaveFrom, .inl (cI, 40, .inl gb_)), (a_leaveTo, .inl (cI, 40, .inl gc_))] := hD
    refine lv_aload_n hx hb dX4_spare_51 rfl (lv_at hl 0 rfl) ?_
    refine va_get (D := D) (ci := 4) (v := .int nn) (C := RX4) (T := TX4) (N := 11) hx hb hts in_e_spare_X4 hown hK.1 hP 0 rfl rfl 10 (by decide) lk0 (fun _ h9 => h9) rfl dX4_spare_52 ?_
    exact hret nn (nn, ga_, gb_, gc_) _ _ _ _ (show ((v_rows.toInt < 40) ∧ nn.toInt = v_rows.toInt + 1 ∧ nn = v_rows + 1 ∧ ga_ = upd f_leaveOf v_rows.toNatClampNeg px ∧ gb_ = upd f_leaveFrom v_rows.toNatClampNeg q ∧ gc_ = upd f_leaveTo v_rows.toNatClampNeg t) ∨ (¬ (v_rows.toInt < 40) ∧ nn.toInt = -1 ∧ nn = v_rows ∧ ga_ = f_leaveOf ∧ gb_ = f_leaveFrom ∧ gc_ = f_leaveTo) from by first | exact Or.inl ⟨by omega, by omega, enn, ega_, egb_, egc_⟩ | exact Or.inr ⟨by omega, by omega, rfl, rfl, rfl, rfl⟩) rfl (hP.sub [0, 1, 2, 3] rfl) (hD.sub [0, 1, 2, 3] (by decide +kernel) rfl) hS dX4_spare_55
  · have tc_1 := t_nlt c_1
    refine lv_iconst (v := (-1)) hx hb dX4_spare_9 (by decide) ?_
    exact hret (-1) (v_rows, f_leaveOf, f_leaveFrom, f_leaveTo) _ _ _ _ (show ((v_rows.toInt < 40) ∧ (-1 : Int32).toInt = v_rows.toInt + 1 ∧ v_rows = v_rows + 1 ∧ f_leaveOf = upd f_leaveOf v_rows.toNatClampNeg px ∧ f_leaveFrom = upd f_leaveFrom v_rows.toNatClampNeg q ∧ f_leaveTo = upd f_leaveTo v_rows.toNatClampNeg t) ∨ (¬ (v_rows.toInt < 40) ∧ (-1 : Int32).toInt = -1 ∧ v_rows = v_rows ∧ f_leaveOf = f_leaveOf ∧ f_leaveFrom = f_leaveFrom ∧ f_leaveTo = f_leaveTo) from by first | exact Or.inl ⟨by omega, by omega, enn, ega_, egb_, egc_⟩ | exact Or.inr ⟨by omega, by omega, rfl, rfl, rfl, rfl⟩) rfl (hP.sub [0, 1, 2, 3] rfl) (hD.sub [0, 1, 2, 3] (by decide +kernel) rfl) hS dX4_spare_10

theorem in_E_leave_X11 : ∀ w ∈ wsX110, w ∈ wsX11_leave := tl_X11_leave_X11
set_option maxHeartbeats 8000000 in
set_option maxRecDepth 100000 in
theorem E_leave {l : Launch} {D : va_G} {cI cZ cB : ClassId} {sz : Nat} {h a_bells a_feasts a_tape a_reader a_rules a_monks a_duties a_gifts a_figures ga_weekly ga_doubled ga_dueOn ga_owed ga_said ga_spared ga_leaveOf ga_leaveFrom ga_leaveTo : Nat} {v_today v_stock v_guestHeads v_guestRanks v_faultPlace v_candlesInAll gv_size gv_rows : Int32} {gf_leaveOf gf_leaveFrom gf_leaveTo : Nat → Int32} {i a b : Int32} (hgv_size0 : 0 ≤ gv_size.toInt) (hgv_size1 : gv_size.toInt ≤ 40) (hgv_rows0 : 0 ≤ gv_rows.toInt) (hgv_rows1 : gv_rows.toInt ≤ 40) : Met l yX11_leave wsX11_leave ({ frames := 3, cells := 0, slots := 0, locals := 63 }) (RW D cI cZ cB [.ref h, .int i, .int a, .int b] sz [(h, .inr (10, [.ref a_bells, .ref a_feasts, .ref a_tape, .ref a_reader, .ref a_rules, .ref a_monks, .ref a_duties, .ref a_gifts, .ref a_figures, .int v_today, .int v_stock, .int v_guestHeads, .int v_guestRanks, .int v_faultPlace, .int v_candlesInAll])), (a_gifts, .inr (4, [.ref ga_weekly, .ref ga_doubled, .ref ga_dueOn, .ref ga_owed, .ref ga_said, .ref ga_spared, .ref ga_leaveOf, .ref ga_leaveFrom, .ref ga_leaveTo, .int gv_size, .int gv_rows])), (ga_leaveOf, .inl (cI, 40, .inl gf_leaveOf)), (ga_leaveFrom, .inl (cI, 40, .inl gf_leaveFrom)), (ga_leaveTo, .inl (cI, 40, .inl gf_leaveTo))]) (va_Qi (fun (r : Int32) (u : Int32 × (Nat → Int32) × (Nat → Int32) × (Nat → Int32)) => (((0 ≤ i.toInt ∧ i.toInt < gv_size.toInt ∧ 0 ≤ a.toInt ∧ a.toInt ≤ b.toInt ∧ b.toInt ≤ 1094) ∧ gv_rows.toInt < 40) ∧ r.toInt = gv_rows.toInt + 1 ∧ u.1 = gv_rows + 1 ∧ u.2.1 = upd gf_leaveOf gv_rows.toNatClampNeg i ∧ u.2.2.1 = upd gf_leaveFrom gv_rows.toNatClampNeg a ∧ u.2.2.2 = upd gf_leaveTo gv_rows.toNatClampNeg b) ∨ (¬ ((0 ≤ i.toInt ∧ i.toInt < gv_size.toInt ∧ 0 ≤ a.toInt ∧ a.toInt ≤ b.toInt ∧ b.toInt ≤ 1094) ∧ gv_rows.toInt < 40) ∧ r.toInt = -1 ∧ u.1 = gv_rows ∧ u.2.1 = gf_leaveOf ∧ u.2.2.1 = gf_leaveFrom ∧ u.2.2.2 = gf_leaveTo)) (BW D [(h, .inr (10, [.ref a_bells, .ref a_feasts, .ref a_tape, .ref a_reader, .ref a_rules, .ref a_monks, .ref a_duties, .ref a_gifts, .ref a_figures, .int v_today, .int v_stock, .int v_guestHeads, .int v_guestRanks, .int v_faultPlace, .int v_candlesInAll])), (a_gifts, .inr (4, [.ref ga_weekly, .ref ga_doubled, .ref ga_dueOn, .ref ga_owed, .ref ga_said, .ref ga_spared, .ref ga_leaveOf, .ref ga_leaveFrom, .ref ga_leaveTo, .int gv_size, .int gv_rows])), (ga_leaveOf, .inl (cI, 40, .inl gf_leaveOf)), (ga_leaveFrom, .inl (cI, 40, .inl gf_leaveFrom)), (ga_leaveTo, .inl (cI, 40, .inl gf_leaveTo))] sz (fun u : Int32 × (Nat → Int32) × (Nat → Int32) × (Nat → Int32) => [(h, .inr (10, [.ref a_bells, .ref a_feasts, .ref a_tape, .ref a_reader, .ref a_rules, .ref a_monks, .ref a_duties, .ref a_gifts, .ref a_figures, .int v_today, .int v_stock, .int v_guestHeads, .int v_guestRanks, .int v_faultPlace, .int v_candlesInAll])), (a_gifts, .inr (4, [.ref ga_weekly, .ref ga_doubled, .ref ga_dueOn, .ref ga_owed, .ref ga_said, .ref ga_spared, .ref ga_leaveOf, .ref ga_leaveFrom, .ref ga_leaveTo, .int gv_size, .int u.1])), (ga_leaveOf, .inl (cI, 40, .inl u.2.1)), (ga_leaveFrom, .inl (cI, 40, .inl u.2.2.1)), (ga_leaveTo, .inl (cI, 40, .inl u.2.2.2))])) (va_A [(h, .inr (10, [.ref a_bells, .ref a_feasts, .ref a_tape, .ref a_reader, .ref a_rules, .ref a_monks, .ref a_duties, .ref a_gifts, .ref a_figures, .int v_today, .int v_stock, .int v_guestHeads, .int v_guestRanks, .int v_faultPlace, .int v_candlesInAll])), (a_gifts, .inr (4, [.ref ga_weekly, .ref ga_doubled, .ref ga_dueOn, .ref ga_owed, .ref ga_said, .ref ga_spared, .ref ga_leaveOf, .ref ga_leaveFrom, .ref ga_leaveTo, .int gv_size, .int gv_rows])), (ga_leaveOf, .inl (cI, 40, .inl gf_leaveOf)), (ga_leaveFrom, .inl (cI, 40, .inl gf_leaveFrom)), (ga_leaveTo, .inl (cI, 40, .inl gf_leaveTo))] sz)) 0 (0) (va_A [(h, .inr (10, [.ref a_bells, .ref a_feasts, .ref a_tape, .ref a_reader, .ref a_rules, .ref a_monks, .ref a_duties, .ref a_gifts, .ref a_figures, .int v_today, .int v_stock, .int v_guestHeads, .int v_guestRanks, .int v_faultPlace, .int v_candlesInAll])), (a_gifts, .inr (4, [.ref ga_weekly, .ref ga_doubled, .ref ga_dueOn, .ref ga_owed, .ref ga_said, .ref ga_spared, .ref ga_leaveOf, .ref ga_leaveFrom, .ref ga_leaveTo, .int gv_size, .int gv_rows])), (ga_leaveOf, .inl (cI, 40, .inl gf_leaveOf)), (ga_leaveFrom, .inl (cI, 40, .inl gf_leaveFrom)), (ga_leaveTo, .inl (cI, 40, .inl gf_leaveTo))] sz) := by
  refine rw_ret (cc := cX11_leave) (maxL := 4) (ty := .int) (own := RX11) (by decide) rfl rfl (Nat.le_of_ble_eq_true rfl) ?_
  intro p e s m args below meth c Q A S hin hret hP hK hD hA hS ls hl
  obtain ⟨hx, hb, hml, hown, hts⟩ := id S
  have hl : lv_has ls 4 [(0, .ref h), (1, .int i), (2, .int a), (3, .int b)] := hl
  have kkm1 : (-1 : Int32).toInt = -1 := by decide
  have kk0 : (0 : Int32).toInt = 0 := by decide
  have lk0 := hts (.fieldLink RX11 61 "AbbeyHours" "gifts" "LAbbeyHours$Gifts;") (mc_X11_leave_r1 _ (List.mem_of_getElem? (i := 0) rfl))
  refine lv_aload_n hx hb dX11_leave_0 rfl (lv_at hl 0 rfl) ?_
  refine va_get (D := D) (ci := 10) (v := .ref a_gifts) (C := RX11) (T := TX11) (N := 15) hx hb hts in_E_leave_X11 hown hK.1 hP 0 rfl rfl 7 (by decide) lk0 (fun _ h9 => h9) rfl dX11_leave_1 ?_
  refine lv_iload_n hx hb dX11_leave_4 rfl (lv_at hl 1 rfl) ?_
  have hPc := hP.sub (ws' := [(a_gifts, .inr (4, [.ref ga_weekly, .ref ga_doubled, .ref ga_dueOn, .ref ga_owed, .ref ga_said, .ref ga_spared, .ref ga_leaveOf, .ref ga_leaveFrom, .ref ga_leaveTo, .int gv_size, .int gv_rows]))]) [1] rfl
  refine roV (As := [.int i]) (rest := []) S (g_has  ) (cwV 1 hts gX11_leave_X4_has rfl rfl rfl ⟨rfl, hd_X4_has⟩ ⟨Nat.le_of_ble_eq_true rfl, Nat.le_of_ble_eq_true rfl⟩) hK hPc (va_recv hK.1 hPc (ci := 4) (q0 := 0) rfl rfl) rfl hl.1 rfl (Nat.le_of_ble_eq_true rfl) dX11_leave_5 ⟨Nat.le_of_ble_eq_true rfl, Nat.le_of_ble_eq_true rfl⟩ (fun r_1 hw_1 => ?_)
  have hw_1 : (r_1.toInt = 1 ∧ 0 ≤ i.toInt ∧ i.toInt < gv_size.toInt) ∨ (r_1.toInt = 0 ∧ (i.toInt < 0 ∨ gv_size.toInt ≤ i.toInt)) := hw_1
  refine lv_if_eq (tgt := 32) hx hb dX11_leave_8 (by decide) (fun c_2 => ?_) (fun c_2 => ?_)
  · have tc_2 := t_eq c_2
    refine lv_iconst (v := (-1)) hx hb dX11_leave_32 (by decide) ?_
    exact hret (-1) (gv_rows, gf_leaveOf, gf_leaveFrom, gf_leaveTo) _ _ _ _ (show (((0 ≤ i.toInt ∧ i.toInt < gv_size.toInt ∧ 0 ≤ a.toInt ∧ a.toInt ≤ b.toInt ∧ b.toInt ≤ 1094) ∧ gv_rows.toInt < 40) ∧ (-1 : Int32).toInt = gv_rows.toInt + 1 ∧ gv_rows = gv_rows + 1 ∧ gf_leaveOf = upd gf_leaveOf gv_rows.toNatClampNeg i ∧ gf_leaveFrom = upd gf_leaveFrom gv_rows.toNatClampNeg a ∧ gf_leaveTo = upd gf_leaveTo gv_rows.toNatClampNeg b) ∨ (¬ ((0 ≤ i.toInt ∧ i.toInt < gv_size.toInt ∧ 0 ≤ a.toInt ∧ a.toInt ≤ b.toInt ∧ b.toInt ≤ 1094) ∧ gv_rows.toInt < 40) ∧ (-1 : Int32).toInt = -1 ∧ gv_rows = gv_rows ∧ gf_leaveOf = gf_leaveOf ∧ gf_leaveFrom = gf_leaveFrom ∧ gf_leaveTo = gf_leaveTo) from by first | (rcases hw_en with ⟨z1, z2⟩ | ⟨z1, z2⟩; exact Or.inl ⟨by omega, z2⟩; exact Or.inr ⟨by omega, z2⟩) | exact Or.inr ⟨by omega, by omega, rfl, rfl, rfl, rfl⟩) rfl (hP.sub [0, 1, 2, 3, 4] rfl) (hD.sub [0, 1, 2, 3, 4] (by decide +kernel) rfl) hS dX11_leave_33
  · have tc_2 := t_neq c_2
    refine lv_iload_n hx hb dX11_leave_11 rfl (lv_at hl 2 rfl) ?_
    refine lv_iload_n hx hb dX11_leave_12 rfl (lv_at hl 3 rfl) ?_
    have hPc := hP.sub (ws' := []) [] rfl
    refine roS (As := [.int a, .int b]) (rest := []) S (w_isSpan  ) (va_cwS 2 hts gX11_leave_X11_isSpan rfl rfl rfl hd_X11_isSpan ⟨Nat.le_of_ble_eq_true rfl, Nat.le_of_ble_eq_true rfl⟩) hK hPc rfl hl.1 rfl (Nat.le_of_ble_eq_true rfl) dX11_leave_13 ⟨Nat.le_of_ble_eq_true rfl, Nat.le_of_ble_eq_true rfl⟩ (fun r_3 hw_3 => ?_)
    have hw_3 : (r_3.toInt = 1 ∧ 0 ≤ a.toInt ∧ a.toInt ≤ b.toInt ∧ b.toInt ≤ 1094) ∨ (r_3.toInt = 0 ∧ (a.toInt < 0 ∨ b.toInt < a.toInt ∨ 1094 < b.toInt)) := hw_3
    refine lv_if_eq (tgt := 32) hx hb dX11_leave_16 (by decide) (fun c_4 => ?_) (fun c_4 => ?_)
    · have tc_4 := t_eq c_4
      refine lv_iconst (v := (-1)) hx hb dX11_leave_32 (by decide) ?_
      exact hret (-1) (gv_rows, gf_leaveOf, gf_leaveFrom, gf_leaveTo) _ _ _ _ (show (((0 ≤ i.toInt ∧ i.toInt < gv_size.toInt ∧ 0 ≤ a.toInt ∧ a.toInt ≤ b.toInt ∧ b.toInt ≤ 1094) ∧ gv_rows.toInt < 40) ∧ (-1 : Int32).toInt = gv_rows.toInt + 1 ∧ gv_rows = gv_rows + 1 ∧ gf_leaveOf = upd gf_leaveOf gv_rows.toNatClampNeg i ∧ gf_leaveFrom = upd gf_leaveFrom gv_rows.toNatClampNeg a ∧ gf_leaveTo = upd gf_leaveTo gv_rows.toNatClampNeg b) ∨ (¬ ((0 ≤ i.toInt ∧ i.toInt < gv_size.toInt ∧ 0 ≤ a.toInt ∧ a.toInt ≤ b.toInt ∧ b.toInt ≤ 1094) ∧ gv_rows.toInt < 40) ∧ (-1 : Int32).toInt = -1 ∧ gv_rows = gv_rows ∧ gf_leaveOf = gf_leaveOf ∧ gf_leaveFrom = gf_leaveFrom ∧ gf_leaveTo = gf_leaveTo) from by first | (rcases hw_en with ⟨z1, z2⟩ | ⟨z1, z2⟩; exact Or.inl ⟨by omega, z2⟩; exact Or.inr ⟨by omega, z2⟩) | exact Or.inr ⟨by omega, by omega, rfl, rfl, rfl, rfl⟩) rfl (hP.sub [0, 1, 2, 3, 4] rfl) (hD.sub [0, 1, 2, 3, 4] (by decide +kernel) rfl) hS dX11_leave_33
    · have tc_4 := t_neq c_4
      refine lv_aload_n hx hb dX11_leave_19 rfl (lv_at hl 0 rfl) ?_
      refine va_get (D := D) (ci := 10) (v := .ref a_gifts) (C := RX11) (T := TX11) (N := 15) hx hb hts in_E_leave_X11 hown hK.1 hP 0 rfl rfl 7 (by decide) lk0 (fun _ h9 => h9) rfl dX11_leave_20 ?_
      refine lv_iload_n hx hb dX11_leave_23 rfl (lv_at hl 1 rfl) ?_
      refine lv_iload_n hx hb dX11_leave_24 rfl (lv_at hl 2 rfl) ?_
      refine lv_iload_n hx hb dX11_leave_25 rfl (lv_at hl 3 rfl) ?_
      have hPc := hP.sub (ws' := [(a_gifts, .inr (4, [.ref ga_weekly, .ref ga_doubled, .ref ga_dueOn, .ref ga_owed, .ref ga_said, .ref ga_spared, .ref ga_leaveOf, .ref ga_leaveFrom, .ref ga_leaveTo, .int gv_size, .int gv_rows])), (ga_leaveOf, .inl (cI, 40, .inl gf_leaveOf)), (ga_leaveFrom, .inl (cI, 40, .inl gf_leaveFrom)), (ga_leaveTo, .inl (cI, 40, .inl gf_leaveTo))]) [1, 2, 3, 4] rfl
      refine rwV (As := [.int i, .int a, .int b]) (rest := []) (wc := [(a_gifts, .inr (4, [.ref ga_weekly, .ref ga_doubled, .ref ga_dueOn, .ref ga_owed, .ref ga_said, .ref ga_spared, .ref ga_leaveOf, .ref ga_leaveFrom, .ref ga_leaveTo, .int gv_size, .int gv_rows])), (ga_leaveOf, .inl (cI, 40, .inl gf_leaveOf)), (ga_leaveFrom, .inl (cI, 40, .inl gf_leaveFrom)), (ga_leaveTo, .inl (cI, 40, .inl gf_leaveTo))]) (wr := [(h, .inr (10, [.ref a_bells, .ref a_feasts, .ref a_tape, .ref a_reader, .ref a_rules, .ref a_monks, .ref a_duties, .ref a_gifts, .ref a_figures, .int v_today, .int v_stock, .int v_guestHeads, .int v_guestRanks, .int v_faultPlace, .int v_candlesInAll]))]) S (e_spare  (by omega) (by omega)) (cwV 3 hts gX11_leave_X4_spare rfl rfl rfl ⟨rfl, hd_X4_spare⟩ ⟨Nat.le_of_ble_eq_true rfl, Nat.le_of_ble_eq_true rfl⟩) hK hP hD hS hA [1, 2, 3, 4] [0] rfl rfl (by decide +kernel) (by decide +kernel) (by decide +kernel) (va_recv hK.1 hPc (ci := 4) (q0 := 0) rfl rfl) rfl hl.1 rfl (Nat.le_of_ble_eq_true rfl) dX11_leave_26 ⟨Nat.le_of_ble_eq_true rfl, Nat.le_of_ble_eq_true rfl⟩ (fun r_en u_en H locs hw_en hP hD hS => ?_)
      obtain ⟨n1_en, f1_en, f2_en, f3_en⟩ := u_en
      have hw_en : ((gv_rows.toInt < 40) ∧ r_en.toInt = gv_rows.toInt + 1 ∧ n1_en = gv_rows + 1 ∧ f1_en = upd gf_leaveOf gv_rows.toNatClampNeg i ∧ f2_en = upd gf_leaveFrom gv_rows.toNatClampNeg a ∧ f3_en = upd gf_leaveTo gv_rows.toNatClampNeg b) ∨ (¬ (gv_rows.toInt < 40) ∧ r_en.toInt = -1 ∧ n1_en = gv_rows ∧ f1_en = gf_leaveOf ∧ f2_en = gf_leaveFrom ∧ f3_en = gf_leaveTo) := hw_en
      have hP : va_P D vwCl [(h, .inr (10, [.ref a_bells, .ref a_feasts, .ref a_tape, .ref a_reader, .ref a_rules, .ref a_monks, .ref a_duties, .ref a_gifts, .ref a_figures, .int v_today, .int v_stock, .int v_guestHeads, .int v_guestRanks, .int v_faultPlace, .int v_candlesInAll])), (a_gifts, .inr (4, [.ref ga_weekly, .ref ga_doubled, .ref ga_dueOn, .ref ga_owed, .ref ga_said, .ref ga_spared, .ref ga_leaveOf, .ref ga_leaveFrom, .ref ga_leaveTo, .int gv_size, .int n1_en])), (ga_leaveOf, .inl (cI, 40, .inl f1_en)), (ga_leaveFrom, .inl (cI, 40, .inl f2_en)), (ga_leaveTo, .inl (cI, 40, .inl f3_en))] H := hP
      have hD : va_D A [(h, .inr (10, [.ref a_bells, .ref a_feasts, .ref a_tape, .ref a_reader, .ref a_rules, .ref a_monks, .ref a_duties, .ref a_gifts, .ref a_figures, .int v_today, .int v_stock, .int v_guestHeads, .int v_guestRanks, .int v_faultPlace, .int v_candlesInAll])), (a_gifts, .inr (4, [.ref ga_weekly, .ref ga_doubled, .ref ga_dueOn, .ref ga_owed, .ref ga_said, .ref ga_spared, .ref ga_leaveOf, .ref ga_leaveFrom, .ref ga_leaveTo, .int gv_size, .int n1_en])), (ga_leaveOf, .inl (cI, 40, .inl f1_en)), (ga_leaveFrom, .inl (cI, 40, .inl f2_en)), (ga_leaveTo, .inl (cI, 40, .inl f3_en))] := hD
      refine lv_goto (tgt := 33) hx hb dX11_leave_29 (by decide) ?_
      exact hret r_en (n1_en, f1_en, f2_en, f3_en) _ _ _ _ (show (((0 ≤ i.toInt ∧ i.toInt < gv_size.toInt ∧ 0 ≤ a.toInt ∧ a.toInt ≤ b.toInt ∧ b.toInt ≤ 1094) ∧ gv_rows.toInt < 40) ∧ r_en.toInt = gv_rows.toInt + 1 ∧ n1_en = gv_rows + 1 ∧ f1_en = upd gf_leaveOf gv_rows.toNatClampNeg i ∧ f2_en = upd gf_leaveFrom gv_rows.toNatClampNeg a ∧ f3_en = upd gf_leaveTo gv_rows.toNatClampNeg b) ∨ (¬ ((0 ≤ i.toInt ∧ i.toInt < gv_size.toInt ∧ 0 ≤ a.toInt ∧ a.toInt ≤ b.toInt ∧ b.toInt ≤ 1094) ∧ gv_rows.toInt < 40) ∧ r_en.toInt = -1 ∧ n1_en = gv_rows ∧ f1_en = gf_leaveOf ∧ f2_en = gf_leaveFrom ∧ f3_en = gf_leaveTo) from by first | (rcases hw_en with ⟨z1, z2⟩ | ⟨z1, z2⟩; exact Or.inl ⟨by omega, z2⟩; exact Or.inr ⟨by omega, z2⟩) | exact Or.inr ⟨by omega, by omega, rfl, rfl, rfl, rfl⟩) rfl (hP.sub [0, 1, 2, 3, 4] rfl) (hD.sub [0, 1, 2, 3, 4] (by decide +kernel) rfl) hS dX11_leave_33

theorem in_M_leave_X12 : ∀ w ∈ wsX120, w ∈ wsX12_leave := tl_X12_leave_X12
set_option maxHeartbeats 8000000 in
set_option maxRecDepth 100000 in
theorem M_leave {l : Launch} {D : va_G} {cI cZ cB : ClassId} {sz : Nat} {h a_isPriest a_bars a_joined a_turns a_awayMonk a_awayFrom a_awayTo a_feastDay a_rank a_isWeekly a_isDouble a_giftDay a_giftFrom a_owed a_said a_spared a_leaveGift a_leaveFrom a_leaveTo a_lateDay a_lateOffice a_lateBy a_guests a_who a_used a_lacks a_candles a_masses a_owing a_heldOn a_waits a_tape a_text a_statements a_taken a_sort a_first a_second : Nat} {v_today v_monks v_aways v_feasts v_gifts v_leaves v_lates v_store v_allCandles v_taped v_size v_at v_fault v_rules v_wordEnd v_number : Int32} {f_leaveGift f_leaveFrom f_leaveTo : Nat → Int32} {i a b : Int32} (h0_gifts : 0 ≤ v_gifts.toInt) (h1_gifts : v_gifts.toInt ≤ 40) (h0_leaves : 0 ≤ v_leaves.toInt) (h1_leaves : v_leaves.toInt ≤ 40) : Met l yX12_leave wsX12_leave ({ frames := 2, cells := 0, slots := 0, locals := 43 }) (RW D cI cZ cB [.ref h, .int i, .int a, .int b] sz [(h, .inr (11, [.int v_today, .int v_monks, .int v_aways, .int v_feasts, .int v_gifts, .int v_leaves, .int v_lates, .int v_store, .int v_allCandles, .ref a_isPriest, .ref a_bars, .ref a_joined, .ref a_turns, .ref a_awayMonk, .ref a_awayFrom, .ref a_awayTo, .ref a_feastDay, .ref a_rank, .ref a_isWeekly, .ref a_isDouble, .ref a_giftDay, .ref a_giftFrom, .ref a_owed, .ref a_said, .ref a_spared, .ref a_leaveGift, .ref a_leaveFrom, .ref a_leaveTo, .ref a_lateDay, .ref a_lateOffice, .ref a_lateBy, .ref a_guests, .ref a_who, .ref a_used, .ref a_lacks, .ref a_candles, .ref a_masses, .ref a_owing, .ref a_heldOn, .ref a_waits, .ref a_tape, .ref a_text, .int v_taped, .int v_size, .int v_at, .int v_fault, .int v_rules, .ref a_statements, .ref a_taken, .ref a_sort, .ref a_first, .ref a_second, .int v_wordEnd, .int v_number])), (a_leaveGift, .inl (cI, 40, .inl f_leaveGift)), (a_leaveFrom, .inl (cI, 40, .inl f_leaveFrom)), (a_leaveTo, .inl (cI, 40, .inl f_leaveTo))]) (va_Qi (fun (r : Int32) (u : Int32 × (Nat → Int32) × (Nat → Int32) × (Nat → Int32)) => (((0 ≤ i.toInt ∧ i.toInt < v_gifts.toInt ∧ 0 ≤ a.toInt ∧ a.toInt ≤ b.toInt ∧ b.toInt ≤ 1094) ∧ v_leaves.toInt < 40) ∧ r.toInt = v_leaves.toInt + 1 ∧ u.1 = v_leaves + 1 ∧ u.2.1 = upd f_leaveGift v_leaves.toNatClampNeg i ∧ u.2.2.1 = upd f_leaveFrom v_leaves.toNatClampNeg a ∧ u.2.2.2 = upd f_leaveTo v_leaves.toNatClampNeg b) ∨ (¬ ((0 ≤ i.toInt ∧ i.toInt < v_gifts.toInt ∧ 0 ≤ a.toInt ∧ a.toInt ≤ b.toInt ∧ b.toInt ≤ 1094) ∧ v_leaves.toInt < 40) ∧ r.toInt = -1 ∧ u.1 = v_leaves ∧ u.2.1 = f_leaveGift ∧ u.2.2.1 = f_leaveFrom ∧ u.2.2.2 = f_leaveTo)) (BW D [(h, .inr (11, [.int v_today, .int v_monks, .int v_aways, .int v_feasts, .int v_gifts, .int v_leaves, .int v_lates, .int v_store, .int v_allCandles, .ref a_isPriest, .ref a_bars, .ref a_joined, .ref a_turns, .ref a_awayMonk, .ref a_awayFrom, .ref a_awayTo, .ref a_feastDay, .ref a_rank, .ref a_isWeekly, .ref a_isDouble, .ref a_giftDay, .ref a_giftFrom, .ref a_owed, .ref a_said, .ref a_spared, .ref a_leaveGift, .ref a_leaveFrom, .ref a_leaveTo, .ref a_lateDay, .ref a_lateOffice, .ref a_lateBy, .ref a_guests, .ref a_who, .ref a_used, .ref a_lacks, .ref a_candles, .ref a_masses, .ref a_owing, .ref a_heldOn, .ref a_waits, .ref a_tape, .ref a_text, .int v_taped, .int v_size, .int v_at, .int v_fault, .int v_rules, .ref a_statements, .ref a_taken, .ref a_sort, .ref a_first, .ref a_second, .int v_wordEnd, .int v_number])), (a_leaveGift, .inl (cI, 40, .inl f_leaveGift)), (a_leaveFrom, .inl (cI, 40, .inl f_leaveFrom)), (a_leaveTo, .inl (cI, 40, .inl f_leaveTo))] sz (fun u : Int32 × (Nat → Int32) × (Nat → Int32) × (Nat → Int32) => [(h, .inr (11, [.int v_today, .int v_monks, .int v_aways, .int v_feasts, .int v_gifts, .int u.1, .int v_lates, .int v_store, .int v_allCandles, .ref a_isPriest, .ref a_bars, .ref a_joined, .ref a_turns, .ref a_awayMonk, .ref a_awayFrom, .ref a_awayTo, .ref a_feastDay, .ref a_rank, .ref a_isWeekly, .ref a_isDouble, .ref a_giftDay, .ref a_giftFrom, .ref a_owed, .ref a_said, .ref a_spared, .ref a_leaveGift, .ref a_leaveFrom, .ref a_leaveTo, .ref a_lateDay, .ref a_lateOffice, .ref a_lateBy, .ref a_guests, .ref a_who, .ref a_used, .ref a_lacks, .ref a_candles, .ref a_masses, .ref a_owing, .ref a_heldOn, .ref a_waits, .ref a_tape, .ref a_text, .int v_taped, .int v_size, .int v_at, .int v_fault, .int v_rules, .ref a_statements, .ref a_taken, .ref a_sort, .ref a_first, .ref a_second, .int v_wordEnd, .int v_number])), (a_leaveGift, .inl (cI, 40, .inl u.2.1)), (a_leaveFrom, .inl (cI, 40, .inl u.2.2.1)), (a_leaveTo, .inl (cI, 40, .inl u.2.2.2))])) (va_A [(h, .inr (11, [.int v_today, .int v_monks, .int v_aways, .int v_feasts, .int v_gifts, .int v_leaves, .int v_lates, .int v_store, .int v_allCandles, .ref a_isPriest, .ref a_bars, .ref a_joined, .ref a_turns, .ref a_awayMonk, .ref a_awayFrom, .ref a_awayTo, .ref a_feastDay, .ref a_rank, .ref a_isWeekly, .ref a_isDouble, .ref a_giftDay, .ref a_giftFrom, .ref a_owed, .ref a_said, .ref a_spared, .ref a_leaveGift, .ref a_leaveFrom, .ref a_leaveTo, .ref a_lateDay, .ref a_lateOffice, .ref a_lateBy, .ref a_guests, .ref a_who, .ref a_used, .ref a_lacks, .ref a_candles, .ref a_masses, .ref a_owing, .ref a_heldOn, .ref a_waits, .ref a_tape, .ref a_text, .int v_taped, .int v_size, .int v_at, .int v_fault, .int v_rules, .ref a_statements, .ref a_taken, .ref a_sort, .ref a_first, .ref a_second, .int v_wordEnd, .int v_number])), (a_leaveGift, .inl (cI, 40, .inl f_leaveGift)), (a_leaveFrom, .inl (cI, 40, .inl f_leaveFrom)), (a_leaveTo, .inl (cI, 40, .inl f_leaveTo))] sz)) 0 (0) (va_A [(h, .inr (11, [.int v_today, .int v_monks, .int v_aways, .int v_feasts, .int v_gifts, .int v_leaves, .int v_lates, .int v_store, .int v_allCandles, .ref a_isPriest, .ref a_bars, .ref a_joined, .ref a_turns, .ref a_awayMonk, .ref a_awayFrom, .ref a_awayTo, .ref a_feastDay, .ref a_rank, .ref a_isWeekly, .ref a_isDouble, .ref a_giftDay, .ref a_giftFrom, .ref a_owed, .ref a_said, .ref a_spared, .ref a_leaveGift, .ref a_leaveFrom, .ref a_leaveTo, .ref a_lateDay, .ref a_lateOffice, .ref a_lateBy, .ref a_guests, .ref a_who, .ref a_used, .ref a_lacks, .ref a_candles, .ref a_masses, .ref a_owing, .ref a_heldOn, .ref a_waits, .ref a_tape, .ref a_text, .int v_taped, .int v_size, .int v_at, .int v_fault, .int v_rules, .ref a_statements, .ref a_taken, .ref a_sort, .ref a_first, .ref a_second, .int v_wordEnd, .int v_number])), (a_leaveGift, .inl (cI, 40, .inl f_leaveGift)), (a_leaveFrom, .inl (cI, 40, .inl f_leaveFrom)), (a_leaveTo, .inl (cI, 40, .inl f_leaveTo))] sz) := by
  refine rw_ret (cc := cX12_leave) (maxL := 4) (ty := .int) (own := RX12) (by decide) rfl rfl (Nat.le_of_ble_eq_true rfl) ?_
  intro p e s m args below meth c Q A S hin hret hP hK hD hA hS ls hl
  obtain ⟨hx, hb, hml, hown, hts⟩ := id S
  have hl : lv_has ls 4 [(0, .ref h), (1, .int i), (2, .int a), (3, .int b)] := hl
  have kkm1 : (-1 : Int32).toInt = -1 := by decide
  have kk0 : (0 : Int32).toInt = 0 := by decide
  have kk1 : (1 : Int32).toInt = 1 := by decide
  have kk40 : (40 : Int32).toInt = 40 := by decide
  have lk0 := hts (.fieldLink RX12 261 "AbbeyHoursModel" "leaves" "I") (List.mem_cons_of_mem _ (List.mem_append_left _ (List.mem_of_getElem? (i := 0) rfl)))
  have lk1 := hts (.fieldLink RX12 59 "AbbeyHoursModel" "leaveGift" "[I") (List.mem_cons_of_mem _ (List.mem_append_left _ (List.mem_of_getElem? (i := 1) rfl)))
  have lk2 := hts (.fieldLink RX12 62 "AbbeyHoursModel" "leaveFrom" "[I") (List.mem_cons_of_mem _ (List.mem_append_left _ (List.mem_of_getElem? (i := 2) rfl)))
  have lk3 := hts (.fieldLink RX12 65 "AbbeyHoursModel" "leaveTo" "[I") (List.mem_cons_of_mem _ (List.mem_append_left _ (List.mem_of_getElem? (i := 3) rfl)))
  refine lv_aload_n hx hb dX12_leave_0 rfl (lv_at hl 0 rfl) ?_
  refine lv_iload_n hx hb dX12_leave_1 rfl (lv_at hl 1 rfl) ?_
  have hPc := hP.sub (ws' := [(h, .inr (11, [.int v_today, .int v_monks, .int v_aways, .int v_feasts, .int v_gifts, .int v_leaves, .int v_lates, .int v_store, .int v_allCandles, .ref a_isPriest, .ref a_bars, .ref a_joined, .ref a_turns, .ref a_awayMonk, .ref a_awayFrom, .ref a_awayTo, .ref a_feastDay, .ref a_rank, .ref a_isWeekly, .ref a_isDouble, .ref a_giftDay, .ref a_giftFrom, .ref a_owed, .ref a_said, .ref a_spared, .ref a_leaveGift, .ref a_leaveFrom, .ref a_leaveTo, .ref a_lateDay, .ref a_lateOffice, .ref a_lateBy, .ref a_guests, .ref a_who, .ref a_used, .ref a_lacks, .ref a_candles, .ref a_masses, .ref a_owing, .ref a_heldOn, .ref a_waits, .ref a_tape, .ref a_text, .int v_taped, .int v_size, .int v_at, .int v_fault, .int v_rules, .ref a_statements, .ref a_taken, .ref a_sort, .ref a_first, .ref a_second, .int v_wordEnd, .int v_number]))]) [0] rfl
  refine roV (As := [.int i]) (rest := []) S (n_isGift  (by omega) (by omega)) (cwV 1 hts gX12_leave_X12_isGift rfl rfl rfl ⟨rfl, hd_X12_isGift⟩ ⟨Nat.le_of_ble_eq_true rfl, Nat.le_of_ble_eq_true rfl⟩) hK hPc (va_recv hK.1 hPc (ci := 11) (q0 := 0) rfl rfl) rfl hl.1 rfl (Nat.le_of_ble_eq_true rfl) dX12_leave_2 ⟨Nat.le_of_ble_eq_true rfl, Nat.le_of_ble_eq_true rfl⟩ (fun r_1 hw_1 => ?_)
  have hw_1 : (r_1.toInt = 1 ∧ 0 ≤ i.toInt ∧ i.toInt < v_gifts.toInt) ∨ (r_1.toInt = 0 ∧ (i.toInt < 0 ∨ v_gifts.toInt ≤ i.toInt)) := hw_1
  refine lv_if_eq (tgt := 33) hx hb dX12_leave_5 (by decide) (fun c_2 => ?_) (fun c_2 => ?_)
  · have tc_2 := t_eq c_2
    refine lv_iconst (v := (-1)) hx hb dX12_leave_33 (by decide) ?_
    exact hret (-1) (v_leaves, f_leaveGift, f_leaveFrom, f_leaveTo) _ _ _ _ (show (((0 ≤ i.toInt ∧ i.toInt < v_gifts.toInt ∧ 0 ≤ a.toInt ∧ a.toInt ≤ b.toInt ∧ b.toInt ≤ 1094) ∧ v_leaves.toInt < 40) ∧ (-1 : Int32).toInt = v_leaves.toInt + 1 ∧ v_leaves = v_leaves + 1 ∧ f_leaveGift = upd f_leaveGift v_leaves.toNatClampNeg i ∧ f_leaveFrom = upd f_leaveFrom v_leaves.toNatClampNeg a ∧ f_leaveTo = upd f_leaveTo v_leaves.toNatClampNeg b) ∨ (¬ ((0 ≤ i.toInt ∧ i.toInt < v_gifts.toInt ∧ 0 ≤ a.toInt ∧ a.toInt ≤ b.toInt ∧ b.toInt ≤ 1094) ∧ v_leaves.toInt < 40) ∧ (-1 : Int32).toInt = -1 ∧ v_leaves = v_leaves ∧ f_leaveGift = f_leaveGift ∧ f_leaveFrom = f_leaveFrom ∧ f_leaveTo = f_leaveTo) from by first | exact Or.inl ⟨by omega, by omega, enn, ega_, egb_, egc_⟩ | exact Or.inr ⟨by omega, by omega, rfl, rfl, rfl, rfl⟩) rfl (hP.sub [0, 1, 2, 3] rfl) (hD.sub [0, 1, 2, 3] (by decide +kernel) rfl) hS dX12_leave_34
  · have tc_2 := t_neq c_2
    refine lv_iload_n hx hb dX12_leave_8 rfl (lv_at hl 2 rfl) ?_
    refine lv_if_lt (tgt := 33) hx hb dX12_leave_9 (by decide) (fun c_3 => ?_) (fun c_3 => ?_)
    · have tc_3 := t_lt c_3
      refine lv_iconst (v := (-1)) hx hb dX12_leave_33 (by decide) ?_
      exact hret (-1) (v_leaves, f_leaveGift, f_leaveFrom, f_leaveTo) _ _ _ _ (show (((0 ≤ i.toInt ∧ i.toInt < v_gifts.toInt ∧ 0 ≤ a.toInt ∧ a.toInt ≤ b.toInt ∧ b.toInt ≤ 1094) ∧ v_leaves.toInt < 40) ∧ (-1 : Int32).toInt = v_leaves.toInt + 1 ∧ v_leaves = v_leaves + 1 ∧ f_leaveGift = upd f_leaveGift v_leaves.toNatClampNeg i ∧ f_leaveFrom = upd f_leaveFrom v_leaves.toNatClampNeg a ∧ f_leaveTo = upd f_leaveTo v_leaves.toNatClampNeg b) ∨ (¬ ((0 ≤ i.toInt ∧ i.toInt < v_gifts.toInt ∧ 0 ≤ a.toInt ∧ a.toInt ≤ b.toInt ∧ b.toInt ≤ 1094) ∧ v_leaves.toInt < 40) ∧ (-1 : Int32).toInt = -1 ∧ v_leaves = v_leaves ∧ f_leaveGift = f_leaveGift ∧ f_leaveFrom = f_leaveFrom ∧ f_leaveTo = f_leaveTo) from by first | exact Or.inl ⟨by omega, by omega, enn, ega_, egb_, egc_⟩ | exact Or.inr ⟨by omega, by omega, rfl, rfl, rfl, rfl⟩) rfl (hP.sub [0, 1, 2, 3] rfl) (hD.sub [0, 1, 2, 3] (by decide +kernel) rfl) hS dX12_leave_34
    · have tc_3 := t_nlt c_3
      refine lv_iload_n hx hb dX12_leave_12 rfl (lv_at hl 2 rfl) ?_
      refine lv_iload_n hx hb dX12_leave_13 rfl (lv_at hl 3 rfl) ?_
      refine lv_icmp_gt (tgt := 33) hx hb dX12_leave_14 (by decide) (fun c_4 => ?_) (fun c_4 => ?_)
      · have tc_4 := t_lt c_4
        refine lv_iconst (v := (-1)) hx hb dX12_leave_33 (by decide) ?_
        exact hret (-1) (v_leaves, f_leaveGift, f_leaveFrom, f_leaveTo) _ _ _ _ (show (((0 ≤ i.toInt ∧ i.toInt < v_gifts.toInt ∧ 0 ≤ a.toInt ∧ a.toInt ≤ b.toInt ∧ b.toInt ≤ 1094) ∧ v_leaves.toInt < 40) ∧ (-1 : Int32).toInt = v_leaves.toInt + 1 ∧ v_leaves = v_leaves + 1 ∧ f_leaveGift = upd f_leaveGift v_leaves.toNatClampNeg i ∧ f_leaveFrom = upd f_leaveFrom v_leaves.toNatClampNeg a ∧ f_leaveTo = upd f_leaveTo v_leaves.toNatClampNeg b) ∨ (¬ ((0 ≤ i.toInt ∧ i.toInt < v_gifts.toInt ∧ 0 ≤ a.toInt ∧ a.toInt ≤ b.toInt ∧ b.toInt ≤ 1094) ∧ v_leaves.toInt < 40) ∧ (-1 : Int32).toInt = -1 ∧ v_leaves = v_leaves ∧ f_leaveGift = f_leaveGift ∧ f_leaveFrom = f_leaveFrom ∧ f_leaveTo = f_leaveTo) from by first | exact Or.inl ⟨by omega, by omega, enn, ega_, egb_, egc_⟩ | exact Or.inr ⟨by omega, by omega, rfl, rfl, rfl, rfl⟩) rfl (hP.sub [0, 1, 2, 3] rfl) (hD.sub [0, 1, 2, 3] (by decide +kernel) rfl) hS dX12_leave_34
      · have tc_4 := t_nlt c_4
        refine lv_iload_n hx hb dX12_leave_17 rfl (lv_at hl 3 rfl) ?_
        have hPc := hP.sub (ws' := []) [] rfl
        refine roS (As := [.int b]) (rest := []) S (m_isDay  ) (va_cwS 1 hts gX12_leave_X12_isDay rfl rfl rfl hd_X12_isDay ⟨Nat.le_of_ble_eq_true rfl, Nat.le_of_ble_eq_true rfl⟩) hK hPc rfl hl.1 rfl (Nat.le_of_ble_eq_true rfl) dX12_leave_18 ⟨Nat.le_of_ble_eq_true rfl, Nat.le_of_ble_eq_true rfl⟩ (fun r_5 hw_5 => ?_)
        have hw_5 : (r_5.toInt = 1 ∧ 0 ≤ b.toInt ∧ b.toInt ≤ 1094) ∨ (r_5.toInt = 0 ∧ (b.toInt < 0 ∨ 1094 < b.toInt)) := hw_5
        refine lv_if_eq (tgt := 33) hx hb dX12_leave_21 (by decide) (fun c_6 => ?_) (fun c_6 => ?_)
        · have tc_6 := t_eq c_6
          refine lv_iconst (v := (-1)) hx hb dX12_leave_33 (by decide) ?_
          exact hret (-1) (v_leaves, f_leaveGift, f_leaveFrom, f_leaveTo) _ _ _ _ (show (((0 ≤ i.toInt ∧ i.toInt < v_gifts.toInt ∧ 0 ≤ a.toInt ∧ a.toInt ≤ b.toInt ∧ b.toInt ≤ 1094) ∧ v_leaves.toInt < 40) ∧ (-1 : Int32).toInt = v_leaves.toInt + 1 ∧ v_leaves = v_leaves + 1 ∧ f_leaveGift = upd f_leaveGift v_leaves.toNatClampNeg i ∧ f_leaveFrom = upd f_leaveFrom v_leaves.toNatClampNeg a ∧ f_leaveTo = upd f_leaveTo v_leaves.toNatClampNeg b) ∨ (¬ ((0 ≤ i.toInt ∧ i.toInt < v_gifts.toInt ∧ 0 ≤ a.toInt ∧ a.toInt ≤ b.toInt ∧ b.toInt ≤ 1094) ∧ v_leaves.toInt < 40) ∧ (-1 : Int32).toInt = -1 ∧ v_leaves = v_leaves ∧ f_leaveGift = f_leaveGift ∧ f_leaveFrom = f_leaveFrom ∧ f_leaveTo = f_leaveTo) from by first | exact Or.inl ⟨by omega, by omega, enn, ega_, egb_, egc_⟩ | exact Or.inr ⟨by omega, by omega, rfl, rfl, rfl, rfl⟩) rfl (hP.sub [0, 1, 2, 3] rfl) (hD.sub [0, 1, 2, 3] (by decide +kernel) rfl) hS dX12_leave_34
        · have tc_6 := t_neq c_6
          refine lv_aload_n hx hb dX12_leave_24 rfl (lv_at hl 0 rfl) ?_
          refine va_get (D := D) (ci := 11) (v := .int v_leaves) (C := RX12) (T := TX12) (N := 54) hx hb hts in_M_leave_X12 hown hK.1 hP 0 rfl rfl 5 (by decide) lk0 (fun _ h9 => h9) rfl dX12_leave_25 ?_
          refine lv_bipush (v := 40) hx hb dX12_leave_28 (by decide) ?_
          refine lv_icmp_ne (tgt := 35) hx hb dX12_leave_30 (by decide) (fun c_7 => ?_) (fun c_7 => ?_)
          · have tc_7 := t_neq c_7
            refine lv_aload_n hx hb dX12_leave_35 rfl (lv_at hl 0 rfl) ?_
            refine va_get (D := D) (ci := 11) (v := .ref a_leaveGift) (C := RX12) (T := TX12) (N := 54) hx hb hts in_M_leave_X12 hown hK.1 hP 0 rfl rfl 25 (by decide) lk1 (fun _ h9 => h9) rfl dX12_leave_36 ?_
            refine lv_aload_n hx hb dX12_leave_39 rfl (lv_at hl 0 rfl) ?_
            refine va_get (D := D) (ci := 11) (v := .int v_leaves) (C := RX12) (T := TX12) (N := 54) hx hb hts in_M_leave_X12 hown hK.1 hP 0 rfl rfl 5 (by decide) lk0 (fun _ h9 => h9) rfl dX12_leave_40 ?_
            refine lv_iload_n hx hb dX12_leave_43 rfl (lv_at hl 1 rfl) ?_
            refine va_iast hx hb hK.1 hP hD hS 1 0 rfl rfl (t_in (by omega) (by omega)) dX12_leave_44 (fun H locs hP hD hS => ?_)
            obtain ⟨ga_, ega_⟩ : ∃ z : Nat → Int32, z = upd f_leaveGift ((v_leaves : Int32).toNatClampNeg) i := ⟨_, rfl⟩
            rw [← ega_] at hP hD
            have hP : va_P D vwCl [(h, .inr (11, [.int v_today, .int v_monks, .int v_aways, .int v_feasts, .int v_gifts, .int v_leaves, .int v_lates, .int v_store, .int v_allCandles, .ref a_isPriest, .ref a_bars, .ref a_joined, .ref a_turns, .ref a_awayMonk, .ref a_awayFrom, .ref a_awayTo, .ref a_feastDay, .ref a_rank, .ref a_isWeekly, .ref a_isDouble, .ref a_giftDay, .ref a_giftFrom, .ref a_owed, .ref a_said, .ref a_spared, .ref a_leaveGift, .ref a_leaveFrom, .ref a_leaveTo, .ref a_lateDay, .ref a_lateOffice, .ref a_lateBy, .ref a_guests, .ref a_who, .ref a_used, .ref a_lacks, .ref a_candles, .ref a_masses, .ref a_owing, .ref a_heldOn, .ref a_waits, .ref a_tape, .ref a_text, .int v_taped, .int v_size, .int v_at, .int v_fault, .int v_rules, .ref a_statements, .ref a_taken, .ref a_sort, .ref a_first, .ref a_second, .int v_wordEnd, .int v_number])), (a_leaveGift, .inl (cI, 40, .inl ga_)), (a_leaveFrom, .inl (cI, 40, .inl f_leaveFrom)), (a_leaveTo, .inl (cI, 40, .inl f_leaveTo))] H := hP
            have hD : va_D A [(h, .inr (11, [.int v_today, .int v_monks, .int v_aways, .int v_feasts, .int v_gifts, .int v_leaves, .int v_lates, .int v_store, .int v_allCandles, .ref a_isPriest, .ref a_bars, .ref a_joined, .ref a_turns, .ref a_awayMonk, .ref a_awayFrom, .ref a_awayTo, .ref a_feastDay, .ref a_rank, .ref a_isWeekly, .ref a_isDouble, .ref a_giftDay, .ref a_giftFrom, .ref a_owed, .ref a_said, .ref a_spared, .ref a_leaveGift, .ref a_leaveFrom, .ref a_leaveTo, .ref a_lateDay, .ref a_lateOffice, .ref a_lateBy, .ref a_guests, .ref a_who, .ref a_used, .ref a_lacks, .ref a_candles, .ref a_masses, .ref a_owing, .ref a_heldOn, .ref a_waits, .ref a_tape, .ref a_text, .int v_taped, .int v_size, .int v_at, .int v_fault, .int v_rules, .ref a_statements, .ref a_taken, .ref a_sort, .ref a_first, .ref a_second, .int v_wordEnd, .int v_number])), (a_leaveGift, .inl (cI, 40, .inl ga_)), (a_leaveFrom, .inl (cI, 40, .inl f_leaveFrom)), (a_leaveTo, .inl (cI, 40, .inl f_leaveTo))] := hD
            refine lv_aload_n hx hb dX12_leave_45 rfl (lv_at hl 0 rfl) ?_
            refine va_get (D := D) (ci := 11) (v := .ref a_leaveFrom) (C := RX12) (T := TX12) (N := 54) hx hb hts in_M_leave_X12 hown hK.1 hP 0 rfl rfl 26 (by decide) lk2 (fun _ h9 => h9) rfl dX12_leave_46 ?_
            refine lv_aload_n hx hb dX12_leave_49 rfl (lv_at hl 0 rfl) ?_
            refine va_get (D := D) (ci := 11) (v := .int v_leaves) (C := RX12) (T := TX12) (N := 54) hx hb hts in_M_leave_X12 hown hK.1 hP 0 rfl rfl 5 (by decide) lk0 (fun _ h9 => h9) rfl dX12_leave_50 ?_
            refine lv_iload_n hx hb dX12_leave_53 rfl (lv_at hl 2 rfl) ?_
            refine va_iast hx hb hK.1 hP hD hS 2 0 rfl rfl (t_in (by omega) (by omega)) dX12_leave_54 (fun H locs hP hD hS => ?_)
            obtain ⟨gb_, egb_⟩ : ∃ z : Nat → Int32, z = upd f_leaveFrom ((v_leaves : Int32).toNatClampNeg) a := ⟨_, rfl⟩
            rw [← egb_] at hP hD
            have hP : va_P D vwCl [(h, .inr (11, [.int v_today, .int v_monks, .int v_aways, .int v_feasts, .int v_gifts, .int v_leaves, .int v_lates, .int v_store, .int v_allCandles, .ref a_isPriest, .ref a_bars, .ref a_joined, .ref a_turns, .ref a_awayMonk, .ref a_awayFrom, .ref a_awayTo, .ref a_feastDay, .ref a_rank, .ref a_isWeekly, .ref a_isDouble, .ref a_giftDay, .ref a_giftFrom, .ref a_owed, .ref a_said, .ref a_spared, .ref a_leaveGift, .ref a_leaveFrom, .ref a_leaveTo, .ref a_lateDay, .ref a_lateOffice, .ref a_lateBy, .ref a_guests, .ref a_who, .ref a_used, .ref a_lacks, .ref a_candles, .ref a_masses, .ref a_owing, .ref a_heldOn, .ref a_waits, .ref a_tape, .ref a_text, .int v_taped, .int v_size, .int v_at, .int v_fault, .int v_rules, .ref a_statements, .ref a_taken, .ref a_sort, .ref a_first, .ref a_second, .int v_wordEnd, .int v_number])), (a_leaveGift, .inl (cI, 40, .inl ga_)), (a_leaveFrom, .inl (cI, 40, .inl gb_)), (a_leaveTo, .inl (cI, 40, .inl f_leaveTo))] H := hP
            have hD : va_D A [(h, .inr (11, [.int v_today, .int v_monks, .int v_aways, .int v_feasts, .int v_gifts, .int v_leaves, .int v_lates, .int v_store, .int v_allCandles, .ref a_isPriest, .ref a_bars, .ref a_joined, .ref a_turns, .ref a_awayMonk, .ref a_awayFrom, .ref a_awayTo, .ref a_feastDay, .ref a_rank, .ref a_isWeekly, .ref a_isDouble, .ref a_giftDay, .ref a_giftFrom, .ref a_owed, .ref a_said, .ref a_spared, .ref a_leaveGift, .ref a_leaveFrom, .ref a_leaveTo, .ref a_lateDay, .ref a_lateOffice, .ref a_lateBy, .ref a_guests, .ref a_who, .ref a_used, .ref a_lacks, .ref a_candles, .ref a_masses, .ref a_owing, .ref a_heldOn, .ref a_waits, .ref a_tape, .ref a_text, .int v_taped, .int v_size, .int v_at, .int v_fault, .int v_rules, .ref a_statements, .ref a_taken, .ref a_sort, .ref a_first, .ref a_second, .int v_wordEnd, .int v_number])), (a_leaveGift, .inl (cI, 40, .inl ga_)), (a_leaveFrom, .inl (cI, 40, .inl gb_)), (a_leaveTo, .inl (cI, 40, .inl f_leaveTo))] := hD
            refine lv_aload_n hx hb dX12_leave_55 rfl (lv_at hl 0 rfl) ?_
            refine va_get (D := D) (ci := 11) (v := .ref a_leaveTo) (C := RX12) (T := TX12) (N := 54) hx hb hts in_M_leave_X12 hown hK.1 hP 0 rfl rfl 27 (by decide) lk3 (fun _ h9 => h9) rfl dX12_leave_56 ?_
            refine lv_aload_n hx hb dX12_leave_59 rfl (lv_at hl 0 rfl) ?_
            refine va_get (D := D) (ci := 11) (v := .int v_leaves) (C := RX12) (T := TX12) (N := 54) hx hb hts in_M_leave_X12 hown hK.1 hP 0 rfl rfl 5 (by decide) lk0 (fun _ h9 => h9) rfl dX12_leave_60 ?_
            refine lv_iload_n hx hb dX12_leave_63 rfl (lv_at hl 3 rfl) ?_
            refine va_iast hx hb hK.1 hP hD hS 3 0 rfl rfl (t_in (by omega) (by omega)) dX12_leave_64 (fun H locs hP hD hS => ?_)
            obtain ⟨gc_, egc_⟩ : ∃ z : Nat → Int32, z = upd f_leaveTo ((v_leaves : Int32).toNatClampNeg) b := ⟨_, rfl⟩
            rw [← egc_] at hP hD
            have hP : va_P D vwCl [(h, .inr (11, [.int v_today, .int v_monks, .int v_aways, .int v_feasts, .int v_gifts, .int v_leaves, .int v_lates, .int v_store, .int v_allCandles, .ref a_isPriest, .ref a_bars, .ref a_joined, .ref a_turns, .ref a_awayMonk, .ref a_awayFrom, .ref a_awayTo, .ref a_feastDay, .ref a_rank, .ref a_isWeekly, .ref a_isDouble, .ref a_giftDay, .ref a_giftFrom, .ref a_owed, .ref a_said, .ref a_spared, .ref a_leaveGift, .ref a_leaveFrom, .ref a_leaveTo, .ref a_lateDay, .ref a_lateOffice, .ref a_lateBy, .ref a_guests, .ref a_who, .ref a_used, .ref a_lacks, .ref a_candles, .ref a_masses, .ref a_owing, .ref a_heldOn, .ref a_waits, .ref a_tape, .ref a_text, .int v_taped, .int v_size, .int v_at, .int v_fault, .int v_rules, .ref a_statements, .ref a_taken, .ref a_sort, .ref a_first, .ref a_second, .int v_wordEnd, .int v_number])), (a_leaveGift, .inl (cI, 40, .inl ga_)), (a_leaveFrom, .inl (cI, 40, .inl gb_)), (a_leaveTo, .inl (cI, 40, .inl gc_))] H := hP
            have hD : va_D A [(h, .inr (11, [.int v_today, .int v_monks, .int v_aways, .int v_feasts, .int v_gifts, .int v_leaves, .int v_lates, .int v_store, .int v_allCandles, .ref a_isPriest, .ref a_bars, .ref a_joined, .ref a_turns, .ref a_awayMonk, .ref a_awayFrom, .ref a_awayTo, .ref a_feastDay, .ref a_rank, .ref a_isWeekly, .ref a_isDouble, .ref a_giftDay, .ref a_giftFrom, .ref a_owed, .ref a_said, .ref a_spared, .ref a_leaveGift, .ref a_leaveFrom, .ref a_leaveTo, .ref a_lateDay, .ref a_lateOffice, .ref a_lateBy, .ref a_guests, .ref a_who, .ref a_used, .ref a_lacks, .ref a_candles, .ref a_masses, .ref a_owing, .ref a_heldOn, .ref a_waits, .ref a_tape, .ref a_text, .int v_taped, .int v_size, .int v_at, .int v_fault, .int v_rules, .ref a_statements, .ref a_taken, .ref a_sort, .ref a_first, .ref a_second, .int v_wordEnd, .int v_number])), (a_leaveGift, .inl (cI, 40, .inl ga_)), (a_leaveFrom, .inl (cI, 40, .inl gb_)), (a_leaveTo, .inl (cI, 40, .inl gc_))] := hD
            refine lv_aload_n hx hb dX12_leave_65 rfl (lv_at hl 0 rfl) ?_
            refine lv_dup hx hb dX12_leave_66 rfl ?_
            refine va_get (D := D) (ci := 11) (v := .int v_leaves) (C := RX12) (T := TX12) (N := 54) hx hb hts in_M_leave_X12 hown hK.1 hP 0 rfl rfl 5 (by decide) lk0 (fun _ h9 => h9) rfl dX12_leave_67 ?_
            refine lv_iconst (v := 1) hx hb dX12_leave_70 (by decide) ?_
            refine lv_iadd hx hb dX12_leave_71 ?_
            refine lv_topi (fun nn enn => ?_)
            first | have tnn := t_add enn (by omega) (by omega) | skip
            refine va_put (D := D) (ci := 11) (v := .int nn) (ty := .int) (C := RX12) (T := TX12) (N := 54) hx hb hts in_M_leave_X12 tyX12 tyX12_ok nmX12 hown hK.1 hP hD hS 0 rfl rfl 5 (by decide) lk0 (fun _ h9 => h9) rfl (by decide +kernel) rfl rfl (Nat.le_of_ble_eq_true rfl) dX12_leave_72 (fun H locs hP hD hS => ?_)
            have hP : va_P D vwCl [(h, .inr (11, [.int v_today, .int v_monks, .int v_aways, .int v_feasts, .int v_gifts, .int nn, .int v_lates, .int v_store, .int v_allCandles, .ref a_isPriest, .ref a_bars, .ref a_joined, .ref a_turns, .ref a_awayMonk, .ref a_awayFrom, .ref a_awayTo, .ref a_feastDay, .ref a_rank, .ref a_isWeekly, .ref a_isDouble, .ref a_giftDay, .ref a_giftFrom, .ref a_owed, .ref a_said, .ref a_spared, .ref a_leaveGift, .ref a_leaveFrom, .ref a_leaveTo, .ref a_lateDay, .ref a_lateOffice, .ref a_lateBy, .ref a_guests, .ref a_who, .ref a_used, .ref a_lacks, .ref a_candles, .ref a_masses, .ref a_owing, .ref a_heldOn, .ref a_waits, .ref a_tape, .ref a_text, .int v_taped, .int v_size, .int v_at, .int v_fault, .int v_rules, .ref a_statements, .ref a_taken, .ref a_sort, .ref a_first, .ref a_second, .int v_wordEnd, .int v_number])), (a_leaveGift, .inl (cI, 40, .inl ga_)), (a_leaveFrom, .inl (cI, 40, .inl gb_)), (a_leaveTo, .inl (cI, 40, .inl gc_))] H := hP
            have hD : va_D A [(h, .inr (11, [.int v_today, .int v_monks, .int v_aways, .int v_feasts, .int v_gifts, .int nn, .int v_lates, .int v_store, .int v_allCandles, .ref a_isPriest, .ref a_bars, .ref a_joined, .ref a_turns, .ref a_awayMonk, .ref a_awayFrom, .ref a_awayTo, .ref a_feastDay, .ref a_rank, .ref a_isWeekly, .ref a_isDouble, .ref a_giftDay, .ref a_giftFrom, .ref a_owed, .ref a_said, .ref a_spared, .ref a_leaveGift, .ref a_leaveFrom, .ref a_leaveTo, .ref a_lateDay, .ref a_lateOffice, .ref a_lateBy, .ref a_guests, .ref a_who, .ref a_used, .ref a_lacks, .ref a_candles, .ref a_masses, .ref a_owing, .ref a_heldOn, .ref a_waits, .ref a_tape, .ref a_text, .int v_taped, .int v_size, .int v_at, .int v_fault, .int v_rules, .ref a_statements, .ref a_taken, .ref a_sort, .ref a_first, .ref a_second, .int v_wordEnd, .int v_number])), (a_leaveGift, .inl (cI, 40, .inl ga_)), (a_leaveFrom, .inl (cI, 40, .inl gb_)), (a_leaveTo, .inl (cI, 40, .inl gc_))] := hD
            refine lv_aload_n hx hb dX12_leave_75 rfl (lv_at hl 0 rfl) ?_
            refine va_get (D := D) (ci := 11) (v := .int nn) (C := RX12) (T := TX12) (N := 54) hx hb hts in_M_leave_X12 hown hK.1 hP 0 rfl rfl 5 (by decide) lk0 (fun _ h9 => h9) rfl dX12_leave_76 ?_
            exact hret nn (nn, ga_, gb_, gc_) _ _ _ _ (show (((0 ≤ i.toInt ∧ i.toInt < v_gifts.toInt ∧ 0 ≤ a.toInt ∧ a.toInt ≤ b.toInt ∧ b.toInt ≤ 1094) ∧ v_leaves.toInt < 40) ∧ nn.toInt = v_leaves.toInt + 1 ∧ nn = v_leaves + 1 ∧ ga_ = upd f_leaveGift v_leaves.toNatClampNeg i ∧ gb_ = upd f_leaveFrom v_leaves.toNatClampNeg a ∧ gc_ = upd f_leaveTo v_leaves.toNatClampNeg b) ∨ (¬ ((0 ≤ i.toInt ∧ i.toInt < v_gifts.toInt ∧ 0 ≤ a.toInt ∧ a.toInt ≤ b.toInt ∧ b.toInt ≤ 1094) ∧ v_leaves.toInt < 40) ∧ nn.toInt = -1 ∧ nn = v_leaves ∧ ga_ = f_leaveGift ∧ gb_ = f_leaveFrom ∧ gc_ = f_leaveTo) from by first | exact Or.inl ⟨by omega, by omega, enn, ega_, egb_, egc_⟩ | exact Or.inr ⟨by omega, by omega, rfl, rfl, rfl, rfl⟩) rfl (hP.sub [0, 1, 2, 3] rfl) (hD.sub [0, 1, 2, 3] (by decide +kernel) rfl) hS dX12_leave_79
          · have tc_7 := t_eq c_7
            refine lv_iconst (v := (-1)) hx hb dX12_leave_33 (by decide) ?_
            exact hret (-1) (v_leaves, f_leaveGift, f_leaveFrom, f_leaveTo) _ _ _ _ (show (((0 ≤ i.toInt ∧ i.toInt < v_gifts.toInt ∧ 0 ≤ a.toInt ∧ a.toInt ≤ b.toInt ∧ b.toInt ≤ 1094) ∧ v_leaves.toInt < 40) ∧ (-1 : Int32).toInt = v_leaves.toInt + 1 ∧ v_leaves = v_leaves + 1 ∧ f_leaveGift = upd f_leaveGift v_leaves.toNatClampNeg i ∧ f_leaveFrom = upd f_leaveFrom v_leaves.toNatClampNeg a ∧ f_leaveTo = upd f_leaveTo v_leaves.toNatClampNeg b) ∨ (¬ ((0 ≤ i.toInt ∧ i.toInt < v_gifts.toInt ∧ 0 ≤ a.toInt ∧ a.toInt ≤ b.toInt ∧ b.toInt ≤ 1094) ∧ v_leaves.toInt < 40) ∧ (-1 : Int32).toInt = -1 ∧ v_leaves = v_leaves ∧ f_leaveGift = f_leaveGift ∧ f_leaveFrom = f_leaveFrom ∧ f_leaveTo = f_leaveTo) from by first | exact Or.inl ⟨by omega, by omega, enn, ega_, egb_, egc_⟩ | exact Or.inr ⟨by omega, by omega, rfl, rfl, rfl, rfl⟩) rfl (hP.sub [0, 1, 2, 3] rfl) (hD.sub [0, 1, 2, 3] (by decide +kernel) rfl) hS dX12_leave_34

theorem in_e_figure_X4 : ∀ w ∈ wsX40, w ∈ wsX4_figure := tl_X4_figure_X4
set_option maxHeartbeats 8000000 in
set_option maxRecDepth 100000 in
theorem e_figure {l : Launch} {D : va_G} {cI cZ cB : ClassId} {h a_weekly a_doubled a_dueOn a_owed a_said a_spared a_leaveOf a_leaveFrom a_leaveTo : Nat} {v_size v_rows : Int32} {f_owed f_said f_spared : Nat → Int32} {i w : Int32} (hv_size0 : 0 ≤ v_size.toInt) (hv_size1 : v_size.toInt ≤ 40) : Met l yX4_figure wsX4_figure ({ frames := 1, cells := 0, slots := 0, locals := 21 }) (RO D cI cZ cB [.ref h, .int i, .int w] [(h, .inr (4, [.ref a_weekly, .ref a_doubled, .ref a_dueOn, .ref a_owed, .ref a_said, .ref a_spared, .ref a_leaveOf, .ref a_leaveFrom, .ref a_leaveTo, .int v_size, .int v_rows])), (a_owed, .inl (cI, 40, .inl f_owed)), (a_said, .inl (cI, 40, .inl f_said)), (a_spared, .inl (cI, 40, .inl f_spared))]) (vp_Si (fun r : Int32 => GiftAns v_size.toInt f_owed f_said f_spared i w r)) 0 0 (fun _ => False) := by
  refine ro_ret (cc := cX4_figure) (maxL := 3) (ty := .int) (own := RX4) (by decide) rfl rfl (Nat.le_of_ble_eq_true rfl) ?_
  intro p e s m args below meth c Q S hret hP hK ls hl
  obtain ⟨hx, hb, hml, hown, hts⟩ := id S
  have hl : lv_has ls 3 [(0, .ref h), (1, .int i), (2, .int w)] := hl
  have kkm1 : (-1 : Int32).toInt = -1 := by decide
  have kk0 : (0 : Int32).toInt = 0 := by decide
  have lk0 := hts (.fieldLink RX4 22 "AbbeyHours$Gifts" "owed" "[I") (List.mem_cons_of_mem _ (List.mem_append_left _ (List.mem_of_getElem? (i := 0) rfl)))
  have lk1 := hts (.fieldLink RX4 25 "AbbeyHours$Gifts" "said" "[I") (List.mem_cons_of_mem _ (List.mem_append_left _ (List.mem_of_getElem? (i := 1) rfl)))
  have lk2 := hts (.fieldLink RX4 28 "AbbeyHours$Gifts" "spared" "[I") (List.mem_cons_of_mem _ (List.mem_append_left _ (List.mem_of_getElem? (i := 2) rfl)))
  refine lv_aload_n hx hb dX4_figure_0 rfl (lv_at hl 0 rfl) ?_
  refine lv_iload_n hx hb dX4_figure_1 rfl (lv_at hl 1 rfl) ?_
  have hPc := hP.sub (ws' := [(h, .inr (4, [.ref a_weekly, .ref a_doubled, .ref a_dueOn, .ref a_owed, .ref a_said, .ref a_spared, .ref a_leaveOf, .ref a_leaveFrom, .ref a_leaveTo, .int v_size, .int v_rows]))]) [0] rfl
  refine roV (As := [.int i]) (rest := []) S (g_has  ) (cwV 1 hts gX4_figure_X4_has rfl rfl rfl ⟨rfl, hd_X4_has⟩ ⟨Nat.le_of_ble_eq_true rfl, Nat.le_of_ble_eq_true rfl⟩) hK hPc (va_recv hK.1 hPc (ci := 4) (q0 := 0) rfl rfl) rfl hl.1 rfl (Nat.le_of_ble_eq_true rfl) dX4_figure_2 ⟨Nat.le_of_ble_eq_true rfl, Nat.le_of_ble_eq_true rfl⟩ (fun r_1 hw_1 => ?_)
  have hw_1 : (r_1.toInt = 1 ∧ 0 ≤ i.toInt ∧ i.toInt < v_size.toInt) ∨ (r_1.toInt = 0 ∧ (i.toInt < 0 ∨ v_size.toInt ≤ i.toInt)) := hw_1
  refine lv_if_ne (tgt := 10) hx hb dX4_figure_5 (by decide) (fun c_2 => ?_) (fun c_2 => ?_)
  · have tc_2 := t_neq c_2
    refine lv_iload_n hx hb dX4_figure_10 rfl (lv_at hl 2 rfl) ?_
    have kqh_3 : (0 : Int32).toInt = 0 := by decide
    by_cases h_3 : w = 0
    · have th_3 := t_eq h_3
      refine lv_tableIn (off := 25) (tgt := 36) hx hb dX4_figure_11 (by rw [h_3]; decide) (by rw [h_3]; decide) (by rw [h_3]; rfl) (by decide) ?_
      refine lv_aload_n hx hb dX4_figure_36 rfl (lv_at hl 0 rfl) ?_
      refine va_get (D := D) (ci := 4) (v := .ref a_owed) (C := RX4) (T := TX4) (N := 11) hx hb hts in_e_figure_X4 hown hK.1 hP 0 rfl rfl 3 (by decide) lk0 (fun _ h9 => h9) rfl dX4_figure_37 ?_
      refine lv_iload_n hx hb dX4_figure_40 rfl (lv_at hl 1 rfl) ?_
      refine va_iald hx hb hK.1 hP 1 0 rfl rfl (t_in (by omega) (by omega)) dX4_figure_41 ?_
      refine lv_topi (fun y0 ey0 => ?_)
      exact hret y0 _ _ (show GiftAns v_size.toInt f_owed f_said f_spared i w y0 from by unfold GiftAns; refine ⟨fun h => ?_, fun h1 => ⟨fun h => ?_, fun h => ?_, fun h => ?_, fun h => ?_⟩⟩ <;> first | (exfalso; omega) | omega | exact ey0 | exact ey1 | exact ey2) rfl dX4_figure_42
    have th_3 := t_neq h_3
    have kqh_5 : (1 : Int32).toInt = 1 := by decide
    by_cases h_5 : w = 1
    · have th_5 := t_eq h_5
      refine lv_tableIn (off := 32) (tgt := 43) hx hb dX4_figure_11 (by rw [h_5]; decide) (by rw [h_5]; decide) (by rw [h_5]; rfl) (by decide) ?_
      refine lv_aload_n hx hb dX4_figure_43 rfl (lv_at hl 0 rfl) ?_
      refine va_get (D := D) (ci := 4) (v := .ref a_said) (C := RX4) (T := TX4) (N := 11) hx hb hts in_e_figure_X4 hown hK.1 hP 0 rfl rfl 4 (by decide) lk1 (fun _ h9 => h9) rfl dX4_figure_44 ?_
      refine lv_iload_n hx hb dX4_figure_47 rfl (lv_at hl 1 rfl) ?_
      refine va_iald hx hb hK.1 hP 2 0 rfl rfl (t_in (by omega) (by omega)) dX4_figure_48 ?_
      refine lv_topi (fun y1 ey1 => ?_)
      exact hret y1 _ _ (show GiftAns v_size.toInt f_owed f_said f_spared i w y1 from by unfold GiftAns; refine ⟨fun h => ?_, fun h1 => ⟨fun h => ?_, fun h => ?_, fun h => ?_, fun h => ?_⟩⟩ <;> first | (exfalso; omega) | omega | exact ey0 | exact ey1 | exact ey2) rfl dX4_figure_49
    have th_5 := t_neq h_5
    have kqh_7 : (2 : Int32).toInt = 2 := by decide
    by_cases h_7 : w = 2
    · have th_7 := t_eq h_7
      refine lv_tableIn (off := 39) (tgt := 50) hx hb dX4_figure_11 (by rw [h_7]; decide) (by rw [h_7]; decide) (by rw [h_7]; rfl) (by decide) ?_
      refine lv_aload_n hx hb dX4_figure_50 rfl (lv_at hl 0 rfl) ?_
      refine va_get (D := D) (ci := 4) (v := .ref a_spared) (C := RX4) (T := TX4) (N := 11) hx hb hts in_e_figure_X4 hown hK.1 hP 0 rfl rfl 5 (by decide) lk2 (fun _ h9 => h9) rfl dX4_figure_51 ?_
      refine lv_iload_n hx hb dX4_figure_54 rfl (lv_at hl 1 rfl) ?_
      refine va_iald hx hb hK.1 hP 3 0 rfl rfl (t_in (by omega) (by omega)) dX4_figure_55 ?_
      refine lv_topi (fun y2 ey2 => ?_)
      exact hret y2 _ _ (show GiftAns v_size.toInt f_owed f_said f_spared i w y2 from by unfold GiftAns; refine ⟨fun h => ?_, fun h1 => ⟨fun h => ?_, fun h => ?_, fun h => ?_, fun h => ?_⟩⟩ <;> first | (exfalso; omega) | omega | exact ey0 | exact ey1 | exact ey2) rfl dX4_figure_56
    have th_7 := t_neq h_7
    refine lv_tableOut (tgt := 57) hx hb dX4_figure_11 (by omega) (by decide) ?_
    refine lv_iconst (v := (-1)) hx hb dX4_figure_57 (by decide) ?_
    exact hret (-1) _ _ (show GiftAns v_size.toInt f_owed f_said f_spared i w (-1 : Int32) from by unfold GiftAns; refine ⟨fun h => ?_, fun h1 => ⟨fun h => ?_, fun h => ?_, fun h => ?_, fun h => ?_⟩⟩ <;> first | (exfalso; omega) | omega | exact ey0 | exact ey1 | exact ey2) rfl dX4_figure_58
  · have tc_2 := t_eq c_2
    refine lv_iconst (v := (-1)) hx hb dX4_figure_8 (by decide) ?_
    exact hret (-1) _ _ (show GiftAns v_size.toInt f_owed f_said f_spared i w (-1 : Int32) from by unfold GiftAns; refine ⟨fun h => ?_, fun h1 => ⟨fun h => ?_, fun h => ?_, fun h => ?_, fun h => ?_⟩⟩ <;> first | (exfalso; omega) | omega | exact ey0 | exact ey1 | exact ey2) rfl dX4_figure_9

theorem in_E_giftOf_X11 : ∀ w ∈ wsX110, w ∈ wsX11_giftOf := tl_X11_giftOf_X11
set_option maxHeartbeats 8000000 in
set_option maxRecDepth 100000 in
theorem E_giftOf {l : Launch} {D : va_G} {cI cZ cB : ClassId} {h a_bells a_feasts a_tape a_reader a_rules a_monks a_duties a_gifts a_figures ga_weekly ga_doubled ga_dueOn ga_owed ga_said ga_spared ga_leaveOf ga_leaveFrom ga_leaveTo : Nat} {v_today v_stock v_guestHeads v_guestRanks v_faultPlace v_candlesInAll gv_size gv_rows : Int32} {gf_owed gf_said gf_spared : Nat → Int32} {i w : Int32} (hgv_size0 : 0 ≤ gv_size.toInt) (hgv_size1 : gv_size.toInt ≤ 40) : Met l yX11_giftOf wsX11_giftOf ({ frames := 2, cells := 0, slots := 0, locals := 43 }) (RO D cI cZ cB [.ref h, .int i, .int w] [(h, .inr (10, [.ref a_bells, .ref a_feasts, .ref a_tape, .ref a_reader, .ref a_rules, .ref a_monks, .ref a_duties, .ref a_gifts, .ref a_figures, .int v_today, .int v_stock, .int v_guestHeads, .int v_guestRanks, .int v_faultPlace, .int v_candlesInAll])), (a_gifts, .inr (4, [.ref ga_weekly, .ref ga_doubled, .ref ga_dueOn, .ref ga_owed, .ref ga_said, .ref ga_spared, .ref ga_leaveOf, .ref ga_leaveFrom, .ref ga_leaveTo, .int gv_size, .int gv_rows])), (ga_owed, .inl (cI, 40, .inl gf_owed)), (ga_said, .inl (cI, 40, .inl gf_said)), (ga_spared, .inl (cI, 40, .inl gf_spared))]) (vp_Si (fun r : Int32 => GiftAns gv_size.toInt gf_owed gf_said gf_spared i w r)) 0 0 (fun _ => False) := by
  refine ro_ret (cc := cX11_giftOf) (maxL := 3) (ty := .int) (own := RX11) (by decide) rfl rfl (Nat.le_of_ble_eq_true rfl) ?_
  intro p e s m args below meth c Q S hret hP hK ls hl
  obtain ⟨hx, hb, hml, hown, hts⟩ := id S
  have hl : lv_has ls 3 [(0, .ref h), (1, .int i), (2, .int w)] := hl
  have kk0 : (0 : Int32).toInt = 0 := by decide
  have lk0 := hts (.fieldLink RX11 61 "AbbeyHours" "gifts" "LAbbeyHours$Gifts;") (List.mem_cons_of_mem _ (List.mem_append_left _ (List.mem_append_left _ (List.mem_of_getElem? (i := 0) rfl))))
  refine lv_aload_n hx hb dX11_giftOf_0 rfl (lv_at hl 0 rfl) ?_
  refine va_get (D := D) (ci := 10) (v := .ref a_gifts) (C := RX11) (T := TX11) (N := 15) hx hb hts in_E_giftOf_X11 hown hK.1 hP 0 rfl rfl 7 (by decide) lk0 (fun _ h9 => h9) rfl dX11_giftOf_1 ?_
  refine lv_iload_n hx hb dX11_giftOf_4 rfl (lv_at hl 1 rfl) ?_
  refine lv_iload_n hx hb dX11_giftOf_5 rfl (lv_at hl 2 rfl) ?_
  have hPc := hP.sub (ws' := [(a_gifts, .inr (4, [.ref ga_weekly, .ref ga_doubled, .ref ga_dueOn, .ref ga_owed, .ref ga_said, .ref ga_spared, .ref ga_leaveOf, .ref ga_leaveFrom, .ref ga_leaveTo, .int gv_size, .int gv_rows])), (ga_owed, .inl (cI, 40, .inl gf_owed)), (ga_said, .inl (cI, 40, .inl gf_said)), (ga_spared, .inl (cI, 40, .inl gf_spared))]) [1, 2, 3, 4] rfl
  refine roV (As := [.int i, .int w]) (rest := []) S (e_figure  (by omega) (by omega)) (cwV 2 hts gX11_giftOf_X4_figure rfl rfl rfl ⟨rfl, hd_X4_figure⟩ ⟨Nat.le_of_ble_eq_true rfl, Nat.le_of_ble_eq_true rfl⟩) hK hPc (va_recv hK.1 hPc (ci := 4) (q0 := 0) rfl rfl) rfl hl.1 rfl (Nat.le_of_ble_eq_true rfl) dX11_giftOf_6 ⟨Nat.le_of_ble_eq_true rfl, Nat.le_of_ble_eq_true rfl⟩ (fun r_fg hw_fg => ?_)
  have hw_fg : GiftAns gv_size.toInt gf_owed gf_said gf_spared i w r_fg := hw_fg
  exact hret r_fg _ _ (show GiftAns gv_size.toInt gf_owed gf_said gf_spared i w r_fg from hw_fg) rfl dX11_giftOf_9

theorem in_M_giftOf_X12 : ∀ w ∈ wsX120, w ∈ wsX12_giftOf := tl_X12_giftOf_X12
set_option maxHeartbeats 8000000 in
set_option maxRecDepth 100000 in
theorem M_giftOf {l : Launch} {D : va_G} {cI cZ cB : ClassId} {h a_isPriest a_bars a_joined a_turns a_awayMonk a_awayFrom a_awayTo a_feastDay a_rank a_isWeekly a_isDouble a_giftDay a_giftFrom a_owed a_said a_spared a_leaveGift a_leaveFrom a_leaveTo a_lateDay a_lateOffice a_lateBy a_guests a_who a_used a_lacks a_candles a_masses a_owing a_heldOn a_waits a_tape a_text a_statements a_taken a_sort a_first a_second : Nat} {v_today v_monks v_aways v_feasts v_gifts v_leaves v_lates v_store v_allCandles v_taped v_size v_at v_fault v_rules v_wordEnd v_number : Int32} {f_owed f_said f_spared : Nat → Int32} {i w : Int32} (h0_gifts : 0 ≤ v_gifts.toInt) (h1_gifts : v_gifts.toInt ≤ 40) : Met l yX12_giftOf wsX12_giftOf ({ frames := 2, cells := 0, slots := 0, locals := 43 }) (RO D cI cZ cB [.ref h, .int i, .int w] [(h, .inr (11, [.int v_today, .int v_monks, .int v_aways, .int v_feasts, .int v_gifts, .int v_leaves, .int v_lates, .int v_store, .int v_allCandles, .ref a_isPriest, .ref a_bars, .ref a_joined, .ref a_turns, .ref a_awayMonk, .ref a_awayFrom, .ref a_awayTo, .ref a_feastDay, .ref a_rank, .ref a_isWeekly, .ref a_isDouble, .ref a_giftDay, .ref a_giftFrom, .ref a_owed, .ref a_said, .ref a_spared, .ref a_leaveGift, .ref a_leaveFrom, .ref a_leaveTo, .ref a_lateDay, .ref a_lateOffice, .ref a_lateBy, .ref a_guests, .ref a_who, .ref a_used, .ref a_lacks, .ref a_candles, .ref a_masses, .ref a_owing, .ref a_heldOn, .ref a_waits, .ref a_tape, .ref a_text, .int v_taped, .int v_size, .int v_at, .int v_fault, .int v_rules, .ref a_statements, .ref a_taken, .ref a_sort, .ref a_first, .ref a_second, .int v_wordEnd, .int v_number])), (a_owed, .inl (cI, 40, .inl f_owed)), (a_said, .inl (cI, 40, .inl f_said)), (a_spared, .inl (cI, 40, .inl f_spared))]) (vp_Si (fun r : Int32 => GiftAns v_gifts.toInt f_owed f_said f_spared i w r)) 0 0 (fun _ => False) := by
  refine ro_ret (cc := cX12_giftOf) (maxL := 3) (ty := .int) (own := RX12) (by decide) rfl rfl (Nat.le_of_ble_eq_true rfl) ?_
  intro p e s m args below meth c Q S hret hP hK ls hl
  obtain ⟨hx, hb, hml, hown, hts⟩ := id S
  have hl : lv_has ls 3 [(0, .ref h), (1, .int i), (2, .int w)] := hl
  have kkm1 : (-1 : Int32).toInt = -1 := by decide
  have kk0 : (0 : Int32).toInt = 0 := by decide
  have kk1 : (1 : Int32).toInt = 1 := by decide
  have kk2 : (2 : Int32).toInt = 2 := by decide
  have lk0 := hts (.fieldLink RX12 56 "AbbeyHoursModel" "spared" "[I") (List.mem_cons_of_mem _ (List.mem_append_left _ (List.mem_of_getElem? (i := 2) rfl)))
  have lk1 := hts (.fieldLink RX12 53 "AbbeyHoursModel" "said" "[I") (List.mem_cons_of_mem _ (List.mem_append_left _ (List.mem_of_getElem? (i := 1) rfl)))
  have lk2 := hts (.fieldLink RX12 50 "AbbeyHoursModel" "owed" "[I") (List.mem_cons_of_mem _ (List.mem_append_left _ (List.mem_of_getElem? (i := 0) rfl)))
  refine lv_aload_n hx hb dX12_giftOf_0 rfl (lv_at hl 0 rfl) ?_
  refine lv_iload_n hx hb dX12_giftOf_1 rfl (lv_at hl 1 rfl) ?_
  have hPc := hP.sub (ws' := [(h, .inr (11, [.int v_today, .int v_monks, .int v_aways, .int v_feasts, .int v_gifts, .int v_leaves, .int v_lates, .int v_store, .int v_allCandles, .ref a_isPriest, .ref a_bars, .ref a_joined, .ref a_turns, .ref a_awayMonk, .ref a_awayFrom, .ref a_awayTo, .ref a_feastDay, .ref a_rank, .ref a_isWeekly, .ref a_isDouble, .ref a_giftDay, .ref a_giftFrom, .ref a_owed, .ref a_said, .ref a_spared, .ref a_leaveGift, .ref a_leaveFrom, .ref a_leaveTo, .ref a_lateDay, .ref a_lateOffice, .ref a_lateBy, .ref a_guests, .ref a_who, .ref a_used, .ref a_lacks, .ref a_candles, .ref a_masses, .ref a_owing, .ref a_heldOn, .ref a_waits, .ref a_tape, .ref a_text, .int v_taped, .int v_size, .int v_at, .int v_fault, .int v_rules, .ref a_statements, .ref a_taken, .ref a_sort, .ref a_first, .ref a_second, .int v_wordEnd, .int v_number]))]) [0] rfl
  refine roV (As := [.int i]) (rest := []) S (n_isGift  (by omega) (by omega)) (cwV 1 hts gX12_giftOf_X12_isGift rfl rfl rfl ⟨rfl, hd_X12_isGift⟩ ⟨Nat.le_of_ble_eq_true rfl, Nat.le_of_ble_eq_true rfl⟩) hK hPc (va_recv hK.1 hPc (ci := 11) (q0 := 0) rfl rfl) rfl hl.1 rfl (Nat.le_of_ble_eq_true rfl) dX12_giftOf_2 ⟨Nat.le_of_ble_eq_true rfl, Nat.le_of_ble_eq_true rfl⟩ (fun r_1 hw_1 => ?_)
  have hw_1 : (r_1.toInt = 1 ∧ 0 ≤ i.toInt ∧ i.toInt < v_gifts.toInt) ∨ (r_1.toInt = 0 ∧ (i.toInt < 0 ∨ v_gifts.toInt ≤ i.toInt)) := hw_1
  refine lv_if_ne (tgt := 12) hx hb dX12_giftOf_5 (by decide) (fun c_2 => ?_) (fun c_2 => ?_)
  · have tc_2 := t_neq c_2
    refine lv_iload_n hx hb dX12_giftOf_12 rfl (lv_at hl 2 rfl) ?_
    refine lv_if_ne (tgt := 25) hx hb dX12_giftOf_13 (by decide) (fun c_3 => ?_) (fun c_3 => ?_)
    · have tc_3 := t_neq c_3
      refine lv_iload_n hx hb dX12_giftOf_25 rfl (lv_at hl 2 rfl) ?_
      refine lv_iconst (v := 1) hx hb dX12_giftOf_26 (by decide) ?_
      refine lv_icmp_ne (tgt := 39) hx hb dX12_giftOf_27 (by decide) (fun c_4 => ?_) (fun c_4 => ?_)
      · have tc_4 := t_neq c_4
        refine lv_iload_n hx hb dX12_giftOf_39 rfl (lv_at hl 2 rfl) ?_
        refine lv_iconst (v := 2) hx hb dX12_giftOf_40 (by decide) ?_
        refine lv_icmp_ne (tgt := 53) hx hb dX12_giftOf_41 (by decide) (fun c_5 => ?_) (fun c_5 => ?_)
        · have tc_5 := t_neq c_5
          refine lv_iconst (v := (-1)) hx hb dX12_giftOf_53 (by decide) ?_
          exact hret (-1) _ _ (show GiftAns v_gifts.toInt f_owed f_said f_spared i w (-1 : Int32) from by unfold GiftAns; refine ⟨fun h => ?_, fun h1 => ⟨fun h => ?_, fun h => ?_, fun h => ?_, fun h => ?_⟩⟩ <;> first | (exfalso; omega) | omega | exact ey0 | exact ey1 | exact ey2) rfl dX12_giftOf_54
        · have tc_5 := t_eq c_5
          refine lv_aload_n hx hb dX12_giftOf_44 rfl (lv_at hl 0 rfl) ?_
          refine va_get (D := D) (ci := 11) (v := .ref a_spared) (C := RX12) (T := TX12) (N := 54) hx hb hts in_M_giftOf_X12 hown hK.1 hP 0 rfl rfl 24 (by decide) lk0 (fun _ h9 => h9) rfl dX12_giftOf_45 ?_
          refine lv_iload_n hx hb dX12_giftOf_48 rfl (lv_at hl 1 rfl) ?_
          refine va_iald hx hb hK.1 hP 3 0 rfl rfl (t_in (by omega) (by omega)) dX12_giftOf_49 ?_
          refine lv_topi (fun y2 ey2 => ?_)
          refine lv_goto (tgt := 54) hx hb dX12_giftOf_50 (by decide) ?_
          exact hret y2 _ _ (show GiftAns v_gifts.toInt f_owed f_said f_spared i w y2 from by unfold GiftAns; refine ⟨fun h => ?_, fun h1 => ⟨fun h => ?_, fun h => ?_, fun h => ?_, fun h => ?_⟩⟩ <;> first | (exfalso; omega) | omega | exact ey0 | exact ey1 | exact ey2) rfl dX12_giftOf_54
      · have tc_4 := t_eq c_4
        refine lv_aload_n hx hb dX12_giftOf_30 rfl (lv_at hl 0 rfl) ?_
        refine va_get (D := D) (ci := 11) (v := .ref a_said) (C := RX12) (T := TX12) (N := 54) hx hb hts in_M_giftOf_X12 hown hK.1 hP 0 rfl rfl 23 (by decide) lk1 (fun _ h9 => h9) rfl dX12_giftOf_31 ?_
        refine lv_iload_n hx hb dX12_giftOf_34 rfl (lv_at hl 1 rfl) ?_
        refine va_iald hx hb hK.1 hP 2 0 rfl rfl (t_in (by omega) (by omega)) dX12_giftOf_35 ?_
        refine lv_topi (fun y1 ey1 => ?_)
        refine lv_goto (tgt := 54) hx hb dX12_giftOf_36 (by decide) ?_
        exact hret y1 _ _ (show GiftAns v_gifts.toInt f_owed f_said f_spared i w y1 from by unfold GiftAns; refine ⟨fun h => ?_, fun h1 => ⟨fun h => ?_, fun h => ?_, fun h => ?_, fun h => ?_⟩⟩ <;> first | (exfalso; omega) | omega | exact ey0 | exact ey1 | exact ey2) rfl dX12_giftOf_54
    · have tc_3 := t_eq c_3
      refine lv_aload_n hx hb dX12_giftOf_16 rfl (lv_at hl 0 rfl) ?_
      refine va_get (D := D) (ci := 11) (v := .ref a_owed) (C := RX12) (T := TX12) (N := 54) hx hb hts in_M_giftOf_X12 hown hK.1 hP 0 rfl rfl 22 (by decide) lk2 (fun _ h9 => h9) rfl dX12_giftOf_17 ?_
      refine lv_iload_n hx hb dX12_giftOf_20 rfl (lv_at hl 1 rfl) ?_
      refine va_iald hx hb hK.1 hP 1 0 rfl rfl (t_in (by omega) (by omega)) dX12_giftOf_21 ?_
      refine lv_topi (fun y0 ey0 => ?_)
      refine lv_goto (tgt := 54) hx hb dX12_giftOf_22 (by decide) ?_
      exact hret y0 _ _ (show GiftAns v_gifts.toInt f_owed f_said f_spared i w y0 from by unfold GiftAns; refine ⟨fun h => ?_, fun h1 => ⟨fun h => ?_, fun h => ?_, fun h => ?_, fun h => ?_⟩⟩ <;> first | (exfalso; omega) | omega | exact ey0 | exact ey1 | exact ey2) rfl dX12_giftOf_54
  · have tc_2 := t_eq c_2
    refine lv_iconst (v := (-1)) hx hb dX12_giftOf_8 (by decide) ?_
    refine lv_goto (tgt := 54) hx hb dX12_giftOf_9 (by decide) ?_
    exact hret (-1) _ _ (show GiftAns v_gifts.toInt f_owed f_said f_spared i w (-1 : Int32) from by unfold GiftAns; refine ⟨fun h => ?_, fun h1 => ⟨fun h => ?_, fun h => ?_, fun h => ?_, fun h => ?_⟩⟩ <;> first | (exfalso; omega) | omega | exact ey0 | exact ey1 | exact ey2) rfl dX12_giftOf_54

theorem in_E_turn_X11 : ∀ w ∈ wsX110, w ∈ wsX11_turn := tl_X11_turn_X11
set_option maxHeartbeats 8000000 in
set_option maxRecDepth 100000 in
theorem E_turn {l : Launch} {D : va_G} {cI cZ cB : ClassId} {h a_bells a_feasts a_tape a_reader a_rules a_monks a_duties a_gifts a_figures ua_holders ua_taken uac uL : Nat} {v_today v_stock v_guestHeads v_guestRanks v_faultPlace v_candlesInAll : Int32} {ufc : Nat → Int32} {d k : Int32} (h0_today : 0 ≤ v_today.toInt) (h1_today : v_today.toInt ≤ 1094) (hL : uL < 65536) (hd : v_today.toInt * 4 ≤ uL) : Met l yX11_turn wsX11_turn ({ frames := 3, cells := 0, slots := 0, locals := 66 }) (RO D cI cZ cB [.ref h, .int d, .int k] [(h, .inr (10, [.ref a_bells, .ref a_feasts, .ref a_tape, .ref a_reader, .ref a_rules, .ref a_monks, .ref a_duties, .ref a_gifts, .ref a_figures, .int v_today, .int v_stock, .int v_guestHeads, .int v_guestRanks, .int v_faultPlace, .int v_candlesInAll])), (a_duties, .inr (2, [.ref ua_holders, .ref ua_taken])), (ua_holders, .inr (1, [.int 4, .ref uac])), (uac, .inl (cI, uL, .inl ufc))]) (vp_Si (fun r : Int32 => ((0 ≤ d.toInt ∧ d.toInt < v_today.toInt ∧ 0 ≤ k.toInt ∧ k.toInt ≤ 3) → r = ufc (4 * d.toNatClampNeg + k.toNatClampNeg)) ∧ (¬ (0 ≤ d.toInt ∧ d.toInt < v_today.toInt ∧ 0 ≤ k.toInt ∧ k.toInt ≤ 3) → r.toInt = -1))) 0 0 (fun _ => False) := by
  refine ro_ret (cc := cX11_turn) (maxL := 3) (ty := .int) (own := RX11) (by decide) rfl rfl (Nat.le_of_ble_eq_true rfl) ?_
  intro p e s m args below meth c Q S hret hP hK ls hl
  obtain ⟨hx, hb, hml, hown, hts⟩ := id S
  have hl : lv_has ls 3 [(0, .ref h), (1, .int d), (2, .int k)] := hl
  have kkm1 : (-1 : Int32).toInt = -1 := by decide
  have kk0 : (0 : Int32).toInt = 0 := by decide
  have lk0 := hts (.fieldLink RX11 54 "AbbeyHours" "duties" "LAbbeyHours$Duties;") (mc_X11_turn_r1 _ (List.mem_of_getElem? (i := 0) rfl))
  refine lv_aload_n hx hb dX11_turn_0 rfl (lv_at hl 0 rfl) ?_
  refine lv_iload_n hx hb dX11_turn_1 rfl (lv_at hl 1 rfl) ?_
  have hPc := hP.sub (ws' := [(h, .inr (10, [.ref a_bells, .ref a_feasts, .ref a_tape, .ref a_reader, .ref a_rules, .ref a_monks, .ref a_duties, .ref a_gifts, .ref a_figures, .int v_today, .int v_stock, .int v_guestHeads, .int v_guestRanks, .int v_faultPlace, .int v_candlesInAll]))]) [0] rfl
  refine roV (As := [.int d]) (rest := []) S (v_isGoneBy  ) (cwV 1 hts gX11_turn_X11_isGoneBy rfl rfl rfl ⟨rfl, hd_X11_isGoneBy⟩ ⟨Nat.le_of_ble_eq_true rfl, Nat.le_of_ble_eq_true rfl⟩) hK hPc (va_recv hK.1 hPc (ci := 10) (q0 := 0) rfl rfl) rfl hl.1 rfl (Nat.le_of_ble_eq_true rfl) dX11_turn_2 ⟨Nat.le_of_ble_eq_true rfl, Nat.le_of_ble_eq_true rfl⟩ (fun r_1 hw_1 => ?_)
  have hw_1 : (r_1.toInt = 1 ∧ 0 ≤ d.toInt ∧ d.toInt < v_today.toInt) ∨ (r_1.toInt = 0 ∧ (d.toInt < 0 ∨ v_today.toInt ≤ d.toInt)) := hw_1
  refine lv_if_eq (tgt := 27) hx hb dX11_turn_5 (by decide) (fun c_2 => ?_) (fun c_2 => ?_)
  · have tc_2 := t_eq c_2
    refine lv_iconst (v := (-1)) hx hb dX11_turn_27 (by decide) ?_
    exact hret (-1) _ _ (show ((0 ≤ d.toInt ∧ d.toInt < v_today.toInt ∧ 0 ≤ k.toInt ∧ k.toInt ≤ 3) → (-1 : Int32) = ufc (4 * d.toNatClampNeg + k.toNatClampNeg)) ∧ (¬ (0 ≤ d.toInt ∧ d.toInt < v_today.toInt ∧ 0 ≤ k.toInt ∧ k.toInt ≤ 3) → (-1 : Int32).toInt = -1) from by first | exact ⟨fun _ => hw_ho, fun h => absurd (by omega) h⟩ | exact ⟨fun h => by exfalso; omega, fun _ => by omega⟩) rfl dX11_turn_28
  · have tc_2 := t_neq c_2
    refine lv_iload_n hx hb dX11_turn_8 rfl (lv_at hl 2 rfl) ?_
    have hPc := hP.sub (ws' := []) [] rfl
    refine roS (As := [.int k]) (rest := []) S (w_isDuty  ) (va_cwS 1 hts gX11_turn_X11_isDuty rfl rfl rfl hd_X11_isDuty ⟨Nat.le_of_ble_eq_true rfl, Nat.le_of_ble_eq_true rfl⟩) hK hPc rfl hl.1 rfl (Nat.le_of_ble_eq_true rfl) dX11_turn_9 ⟨Nat.le_of_ble_eq_true rfl, Nat.le_of_ble_eq_true rfl⟩ (fun r_3 hw_3 => ?_)
    have hw_3 : (r_3.toInt = 1 ∧ 0 ≤ k.toInt ∧ k.toInt ≤ 3) ∨ (r_3.toInt = 0 ∧ (k.toInt < 0 ∨ 3 < k.toInt)) := hw_3
    refine lv_if_eq (tgt := 27) hx hb dX11_turn_12 (by decide) (fun c_4 => ?_) (fun c_4 => ?_)
    · have tc_4 := t_eq c_4
      refine lv_iconst (v := (-1)) hx hb dX11_turn_27 (by decide) ?_
      exact hret (-1) _ _ (show ((0 ≤ d.toInt ∧ d.toInt < v_today.toInt ∧ 0 ≤ k.toInt ∧ k.toInt ≤ 3) → (-1 : Int32) = ufc (4 * d.toNatClampNeg + k.toNatClampNeg)) ∧ (¬ (0 ≤ d.toInt ∧ d.toInt < v_today.toInt ∧ 0 ≤ k.toInt ∧ k.toInt ≤ 3) → (-1 : Int32).toInt = -1) from by first | exact ⟨fun _ => hw_ho, fun h => absurd (by omega) h⟩ | exact ⟨fun h => by exfalso; omega, fun _ => by omega⟩) rfl dX11_turn_28
    · have tc_4 := t_neq c_4
      refine lv_aload_n hx hb dX11_turn_15 rfl (lv_at hl 0 rfl) ?_
      refine va_get (D := D) (ci := 10) (v := .ref a_duties) (C := RX11) (T := TX11) (N := 15) hx hb hts in_E_turn_X11 hown hK.1 hP 0 rfl rfl 6 (by decide) lk0 (fun _ h9 => h9) rfl dX11_turn_16 ?_
      refine lv_iload_n hx hb dX11_turn_19 rfl (lv_at hl 1 rfl) ?_
      refine lv_iload_n hx hb dX11_turn_20 rfl (lv_at hl 2 rfl) ?_
      have hPc := hP.sub (ws' := [(a_duties, .inr (2, [.ref ua_holders, .ref ua_taken])), (ua_holders, .inr (1, [.int 4, .ref uac])), (uac, .inl (cI, uL, .inl ufc))]) [1, 2, 3] rfl
      refine roV (As := [.int d, .int k]) (rest := []) S (e_holder  (by omega) (by omega) (by omega) (by omega) (by omega) (by omega)) (cwV 2 hts gX11_turn_X2_holder rfl rfl rfl ⟨rfl, hd_X2_holder⟩ ⟨Nat.le_of_ble_eq_true rfl, Nat.le_of_ble_eq_true rfl⟩) hK hPc (va_recv hK.1 hPc (ci := 2) (q0 := 0) rfl rfl) rfl hl.1 rfl (Nat.le_of_ble_eq_true rfl) dX11_turn_21 ⟨Nat.le_of_ble_eq_true rfl, Nat.le_of_ble_eq_true rfl⟩ (fun r_ho hw_ho => ?_)
      have hw_ho : r_ho = ufc (4 * d.toNatClampNeg + k.toNatClampNeg) := hw_ho
      refine lv_goto (tgt := 28) hx hb dX11_turn_24 (by decide) ?_
      exact hret r_ho _ _ (show ((0 ≤ d.toInt ∧ d.toInt < v_today.toInt ∧ 0 ≤ k.toInt ∧ k.toInt ≤ 3) → r_ho = ufc (4 * d.toNatClampNeg + k.toNatClampNeg)) ∧ (¬ (0 ≤ d.toInt ∧ d.toInt < v_today.toInt ∧ 0 ≤ k.toInt ∧ k.toInt ≤ 3) → r_ho.toInt = -1) from by first | exact ⟨fun _ => hw_ho, fun h => absurd (by omega) h⟩ | exact ⟨fun h => by exfalso; omega, fun _ => by omega⟩) rfl dX11_turn_28

theorem in_M_turn_X12 : ∀ w ∈ wsX120, w ∈ wsX12_turn := tl_X12_turn_X12
set_option maxHeartbeats 8000000 in
set_option maxRecDepth 100000 in
theorem M_turn {l : Launch} {D : va_G} {cI cZ cB : ClassId} {h a_isPriest a_bars a_joined a_turns a_awayMonk a_awayFrom a_awayTo a_feastDay a_rank a_isWeekly a_isDouble a_giftDay a_giftFrom a_owed a_said a_spared a_leaveGift a_leaveFrom a_leaveTo a_lateDay a_lateOffice a_lateBy a_guests a_who a_used a_lacks a_candles a_masses a_owing a_heldOn a_waits a_tape a_text a_statements a_taken a_sort a_first a_second : Nat} {v_today v_monks v_aways v_feasts v_gifts v_leaves v_lates v_store v_allCandles v_taped v_size v_at v_fault v_rules v_wordEnd v_number : Int32} {f_who : Nat → Int32} {d k : Int32} (h0_today : 0 ≤ v_today.toInt) (h1_today : v_today.toInt ≤ 1094) : Met l yX12_turn wsX12_turn ({ frames := 2, cells := 0, slots := 0, locals := 43 }) (RO D cI cZ cB [.ref h, .int d, .int k] [(h, .inr (11, [.int v_today, .int v_monks, .int v_aways, .int v_feasts, .int v_gifts, .int v_leaves, .int v_lates, .int v_store, .int v_allCandles, .ref a_isPriest, .ref a_bars, .ref a_joined, .ref a_turns, .ref a_awayMonk, .ref a_awayFrom, .ref a_awayTo, .ref a_feastDay, .ref a_rank, .ref a_isWeekly, .ref a_isDouble, .ref a_giftDay, .ref a_giftFrom, .ref a_owed, .ref a_said, .ref a_spared, .ref a_leaveGift, .ref a_leaveFrom, .ref a_leaveTo, .ref a_lateDay, .ref a_lateOffice, .ref a_lateBy, .ref a_guests, .ref a_who, .ref a_used, .ref a_lacks, .ref a_candles, .ref a_masses, .ref a_owing, .ref a_heldOn, .ref a_waits, .ref a_tape, .ref a_text, .int v_taped, .int v_size, .int v_at, .int v_fault, .int v_rules, .ref a_statements, .ref a_taken, .ref a_sort, .ref a_first, .ref a_second, .int v_wordEnd, .int v_number])), (a_who, .inl (cI, 4380, .inl f_who))]) (vp_Si (fun r : Int32 => ((0 ≤ d.toInt ∧ d.toInt < v_today.toInt ∧ 0 ≤ k.toInt ∧ k.toInt ≤ 3) → r = f_who (4 * d.toNatClampNeg + k.toNatClampNeg)) ∧ (¬ (0 ≤ d.toInt ∧ d.toInt < v_today.toInt ∧ 0 ≤ k.toInt ∧ k.toInt ≤ 3) → r.toInt = -1))) 0 0 (fun _ => False) := by
  refine ro_ret (cc := cX12_turn) (maxL := 3) (ty := .int) (own := RX12) (by decide) rfl rfl (Nat.le_of_ble_eq_true rfl) ?_
  intro p e s m args below meth c Q S hret hP hK ls hl
  obtain ⟨hx, hb, hml, hown, hts⟩ := id S
  have hl : lv_has ls 3 [(0, .ref h), (1, .int d), (2, .int k)] := hl
  have kkm1 : (-1 : Int32).toInt = -1 := by decide
  have kk0 : (0 : Int32).toInt = 0 := by decide
  have kk3 : (3 : Int32).toInt = 3 := by decide
  have kk4 : (4 : Int32).toInt = 4 := by decide
  have lk0 := hts (.fieldLink RX12 80 "AbbeyHoursModel" "who" "[I") (List.mem_cons_of_mem _ (List.mem_append_left _ (List.mem_of_getElem? (i := 0) rfl)))
  refine lv_aload_n hx hb dX12_turn_0 rfl (lv_at hl 0 rfl) ?_
  refine lv_iload_n hx hb dX12_turn_1 rfl (lv_at hl 1 rfl) ?_
  have hPc := hP.sub (ws' := [(h, .inr (11, [.int v_today, .int v_monks, .int v_aways, .int v_feasts, .int v_gifts, .int v_leaves, .int v_lates, .int v_store, .int v_allCandles, .ref a_isPriest, .ref a_bars, .ref a_joined, .ref a_turns, .ref a_awayMonk, .ref a_awayFrom, .ref a_awayTo, .ref a_feastDay, .ref a_rank, .ref a_isWeekly, .ref a_isDouble, .ref a_giftDay, .ref a_giftFrom, .ref a_owed, .ref a_said, .ref a_spared, .ref a_leaveGift, .ref a_leaveFrom, .ref a_leaveTo, .ref a_lateDay, .ref a_lateOffice, .ref a_lateBy, .ref a_guests, .ref a_who, .ref a_used, .ref a_lacks, .ref a_candles, .ref a_masses, .ref a_owing, .ref a_heldOn, .ref a_waits, .ref a_tape, .ref a_text, .int v_taped, .int v_size, .int v_at, .int v_fault, .int v_rules, .ref a_statements, .ref a_taken, .ref a_sort, .ref a_first, .ref a_second, .int v_wordEnd, .int v_number]))]) [0] rfl
  refine roV (As := [.int d]) (rest := []) S (n_hasGone  (by omega) (by omega)) (cwV 1 hts gX12_turn_X12_hasGone rfl rfl rfl ⟨rfl, hd_X12_hasGone⟩ ⟨Nat.le_of_ble_eq_true rfl, Nat.le_of_ble_eq_true rfl⟩) hK hPc (va_recv hK.1 hPc (ci := 11) (q0 := 0) rfl rfl) rfl hl.1 rfl (Nat.le_of_ble_eq_true rfl) dX12_turn_2 ⟨Nat.le_of_ble_eq_true rfl, Nat.le_of_ble_eq_true rfl⟩ (fun r_1 hw_1 => ?_)
  have hw_1 : (r_1.toInt = 1 ∧ 0 ≤ d.toInt ∧ d.toInt < v_today.toInt) ∨ (r_1.toInt = 0 ∧ (d.toInt < 0 ∨ v_today.toInt ≤ d.toInt)) := hw_1
  refine lv_if_eq (tgt := 30) hx hb dX12_turn_5 (by decide) (fun c_2 => ?_) (fun c_2 => ?_)
  · have tc_2 := t_eq c_2
    refine lv_iconst (v := (-1)) hx hb dX12_turn_30 (by decide) ?_
    exact hret (-1) _ _ (show ((0 ≤ d.toInt ∧ d.toInt < v_today.toInt ∧ 0 ≤ k.toInt ∧ k.toInt ≤ 3) → (-1 : Int32) = f_who (4 * d.toNatClampNeg + k.toNatClampNeg)) ∧ (¬ (0 ≤ d.toInt ∧ d.toInt < v_today.toInt ∧ 0 ≤ k.toInt ∧ k.toInt ≤ 3) → (-1 : Int32).toInt = -1) from by first | exact ⟨fun _ => by rw [eyv, ix4 (i := d) (k := k) (by omega) (by omega) (by omega)], fun h => absurd (by omega) h⟩ | exact ⟨fun h => by exfalso; omega, fun _ => by omega⟩) rfl dX12_turn_31
  · have tc_2 := t_neq c_2
    refine lv_iload_n hx hb dX12_turn_8 rfl (lv_at hl 2 rfl) ?_
    refine lv_iconst (v := 0) hx hb dX12_turn_9 (by decide) ?_
    refine lv_iconst (v := 3) hx hb dX12_turn_10 (by decide) ?_
    have hPc := hP.sub (ws' := []) [] rfl
    refine roS (As := [.int k, .int 0, .int 3]) (rest := []) S (m_isIn  ) (va_cwS 3 hts gX12_turn_X12_isIn rfl rfl rfl hd_X12_isIn ⟨Nat.le_of_ble_eq_true rfl, Nat.le_of_ble_eq_true rfl⟩) hK hPc rfl hl.1 rfl (Nat.le_of_ble_eq_true rfl) dX12_turn_11 ⟨Nat.le_of_ble_eq_true rfl, Nat.le_of_ble_eq_true rfl⟩ (fun r_3 hw_3 => ?_)
    have hw_3 : (r_3.toInt = 1 ∧ (0 : Int32).toInt ≤ k.toInt ∧ k.toInt ≤ (3 : Int32).toInt) ∨ (r_3.toInt = 0 ∧ (k.toInt < (0 : Int32).toInt ∨ (3 : Int32).toInt < k.toInt)) := hw_3
    refine lv_if_eq (tgt := 30) hx hb dX12_turn_14 (by decide) (fun c_4 => ?_) (fun c_4 => ?_)
    · have tc_4 := t_eq c_4
      refine lv_iconst (v := (-1)) hx hb dX12_turn_30 (by decide) ?_
      exact hret (-1) _ _ (show ((0 ≤ d.toInt ∧ d.toInt < v_today.toInt ∧ 0 ≤ k.toInt ∧ k.toInt ≤ 3) → (-1 : Int32) = f_who (4 * d.toNatClampNeg + k.toNatClampNeg)) ∧ (¬ (0 ≤ d.toInt ∧ d.toInt < v_today.toInt ∧ 0 ≤ k.toInt ∧ k.toInt ≤ 3) → (-1 : Int32).toInt = -1) from by first | exact ⟨fun _ => by rw [eyv, ix4 (i := d) (k := k) (by omega) (by omega) (by omega)], fun h => absurd (by omega) h⟩ | exact ⟨fun h => by exfalso; omega, fun _ => by omega⟩) rfl dX12_turn_31
    · have tc_4 := t_neq c_4
      refine lv_aload_n hx hb dX12_turn_17 rfl (lv_at hl 0 rfl) ?_
      refine va_get (D := D) (ci := 11) (v := .ref a_who) (C := RX12) (T := TX12) (N := 54) hx hb hts in_M_turn_X12 hown hK.1 hP 0 rfl rfl 32 (by decide) lk0 (fun _ h9 => h9) rfl dX12_turn_18 ?_
      refine lv_iconst (v := 4) hx hb dX12_turn_21 (by decide) ?_
      refine lv_iload_n hx hb dX12_turn_22 rfl (lv_at hl 1 rfl) ?_
      refine lv_imul hx hb dX12_turn_23 ?_
      refine lv_topi (fun x_5 ex_5 => ?_)
      first | have tx_5 := t_mulL kk4 ex_5 (by omega) (by omega) | skip
      refine lv_iload_n hx hb dX12_turn_24 rfl (lv_at hl 2 rfl) ?_
      refine lv_iadd hx hb dX12_turn_25 ?_
      refine lv_topi (fun ix eix => ?_)
      first | have tix := t_add eix (by omega) (by omega) | skip
      refine va_iald hx hb hK.1 hP 1 0 rfl rfl (t_in (by omega) (by omega)) dX12_turn_26 ?_
      refine lv_topi (fun yv eyv => ?_)
      refine lv_goto (tgt := 31) hx hb dX12_turn_27 (by decide) ?_
      exact hret yv _ _ (show ((0 ≤ d.toInt ∧ d.toInt < v_today.toInt ∧ 0 ≤ k.toInt ∧ k.toInt ≤ 3) → yv = f_who (4 * d.toNatClampNeg + k.toNatClampNeg)) ∧ (¬ (0 ≤ d.toInt ∧ d.toInt < v_today.toInt ∧ 0 ≤ k.toInt ∧ k.toInt ≤ 3) → yv.toInt = -1) from by first | exact ⟨fun _ => by rw [eyv, ix4 (i := d) (k := k) (by omega) (by omega) (by omega)], fun h => absurd (by omega) h⟩ | exact ⟨fun h => by exfalso; omega, fun _ => by omega⟩) rfl dX12_turn_31

set_option maxHeartbeats 8000000 in
set_option maxRecDepth 100000 in
theorem e_inAll {l : Launch} {D : va_G} {cI cZ cB : ClassId} {h a_holders a_taken : Nat} {ft : Nat → Int32} {i : Int32} (hi0 : 0 ≤ i.toInt) (hi1 : i.toInt < 24) : Met l yX2_turnsInAll wsX2_turnsInAll ({ frames := 1, cells := 0, slots := 0, locals := 22 }) (RO D cI cZ cB [.ref h, .int i] [(h, .inr (2, [.ref a_holders, .ref a_taken])), (a_taken, .inl (cI, 96, .inl ft))]) (vp_Si (fun r : Int32 => r = sumT ft i)) 0 0 (fun _ => False) := by
  refine ro_ret (cc := cX2_turnsInAll) (maxL := 4) (ty := .int) (own := RX2) (by decide) rfl rfl (Nat.le_of_ble_eq_true rfl) ?_
  intro p e s m args below meth c Q S hret hP hK ls hl
  obtain ⟨hx, hb, hml, hown, hts⟩ := id S
  have hl : lv_has ls 4 [(0, .ref h), (1, .int i)] := hl
  have kk0 : (0 : Int32).toInt = 0 := by decide
  have kk1 : (1 : Int32).toInt = 1 := by decide
  have kk2 : (2 : Int32).toInt = 2 := by decide
  have kk3 : (3 : Int32).toInt = 3 := by decide
  have kk4 : (4 : Int32).toInt = 4 := by decide
  refine lv_iconst (v := 0) hx hb dX2_turnsInAll_0 (by decide) ?_
  refine lv_istore_n (lv' := [(2, .int 0), (0, .ref h), (1, .int i)]) hx hb dX2_turnsInAll_1 rfl hl (by decide) rfl (fun ls hl => ?_)
  refine lv_iconst (v := 0) hx hb dX2_turnsInAll_2 (by decide) ?_
  refine lv_istore_n (lv' := [(3, .int 0), (2, .int 0), (0, .ref h), (1, .int i)]) hx hb dX2_turnsInAll_3 rfl hl (by decide) rfl (fun ls hl => ?_)
  refine lv_iload_n hx hb dX2_turnsInAll_4 rfl (lv_at hl 0 rfl) ?_
  refine lv_iconst (v := 4) hx hb dX2_turnsInAll_5 (by decide) ?_
  refine lv_icmp_ge (tgt := 24) hx hb dX2_turnsInAll_6 (by decide) (fun c_1 => ?_) (fun c_1 => ?_)
  · exact absurd c_1 (by decide)
  · have tc_1 := t_nle c_1
    refine lv_iload_n hx hb dX2_turnsInAll_9 rfl (lv_at hl 1 rfl) ?_
    refine lv_aload_n hx hb dX2_turnsInAll_10 rfl (lv_at hl 2 rfl) ?_
    refine lv_iload_n hx hb dX2_turnsInAll_11 rfl (lv_at hl 3 rfl) ?_
    refine lv_iload_n hx hb dX2_turnsInAll_12 rfl (lv_at hl 0 rfl) ?_
    have hPc := hP.sub (ws' := [(h, .inr (2, [.ref a_holders, .ref a_taken])), (a_taken, .inl (cI, 96, .inl ft))]) [0, 1] rfl
    refine roV (As := [.int i, .int 0]) (rest := [.int 0]) S (e_taken  (by omega) (by omega) (by omega) (by omega)) (cwV 2 hts gX2_turnsInAll_X2_turnsTaken rfl rfl rfl ⟨rfl, hd_X2_turnsTaken⟩ ⟨Nat.le_of_ble_eq_true rfl, Nat.le_of_ble_eq_true rfl⟩) hK hPc (va_recv hK.1 hPc (ci := 2) (q0 := 0) rfl rfl) rfl hl.1 rfl (Nat.le_of_ble_eq_true rfl) dX2_turnsInAll_13 ⟨Nat.le_of_ble_eq_true rfl, Nat.le_of_ble_eq_true rfl⟩ (fun r_2 hw_2 => ?_)
    have hw_2 : r_2 = ft (4 * i.toNatClampNeg + (0 : Int32).toNatClampNeg) := hw_2
    refine lv_iadd hx hb dX2_turnsInAll_16 ?_
    refine lv_topi (fun x_3 ex_3 => ?_)
    refine lv_istore_n (lv' := [(2, .int x_3), (3, .int 0), (0, .ref h), (1, .int i)]) hx hb dX2_turnsInAll_17 rfl hl (by decide) rfl (fun ls hl => ?_)
    obtain ⟨x_4, ex_4⟩ : ∃ y : Int32, y = 0 + 1 := ⟨_, rfl⟩
    obtain rfl : x_4 = 1 := by rw [ex_4]; decide
    refine lv_iinc (v := 1) (lv' := [(3, .int 1), (2, .int x_3), (0, .ref h), (1, .int i)]) hx hb dX2_turnsInAll_18 hl (k := 1) rfl (by decide) (by decide) rfl (fun ls hl => ?_)
    refine lv_goto (tgt := 4) hx hb dX2_turnsInAll_21 (by decide) ?_
    refine lv_iload_n hx hb dX2_turnsInAll_4 rfl (lv_at hl 0 rfl) ?_
    refine lv_iconst (v := 4) hx hb dX2_turnsInAll_5 (by decide) ?_
    refine lv_icmp_ge (tgt := 24) hx hb dX2_turnsInAll_6 (by decide) (fun c_5 => ?_) (fun c_5 => ?_)
    · exact absurd c_5 (by decide)
    · have tc_5 := t_nle c_5
      refine lv_iload_n hx hb dX2_turnsInAll_9 rfl (lv_at hl 1 rfl) ?_
      refine lv_aload_n hx hb dX2_turnsInAll_10 rfl (lv_at hl 2 rfl) ?_
      refine lv_iload_n hx hb dX2_turnsInAll_11 rfl (lv_at hl 3 rfl) ?_
      refine lv_iload_n hx hb dX2_turnsInAll_12 rfl (lv_at hl 0 rfl) ?_
      have hPc := hP.sub (ws' := [(h, .inr (2, [.ref a_holders, .ref a_taken])), (a_taken, .inl (cI, 96, .inl ft))]) [0, 1] rfl
      refine roV (As := [.int i, .int 1]) (rest := [.int x_3]) S (e_taken  (by omega) (by omega) (by omega) (by omega)) (cwV 2 hts gX2_turnsInAll_X2_turnsTaken rfl rfl rfl ⟨rfl, hd_X2_turnsTaken⟩ ⟨Nat.le_of_ble_eq_true rfl, Nat.le_of_ble_eq_true rfl⟩) hK hPc (va_recv hK.1 hPc (ci := 2) (q0 := 0) rfl rfl) rfl hl.1 rfl (Nat.le_of_ble_eq_true rfl) dX2_turnsInAll_13 ⟨Nat.le_of_ble_eq_true rfl, Nat.le_of_ble_eq_true rfl⟩ (fun r_6 hw_6 => ?_)
      have hw_6 : r_6 = ft (4 * i.toNatClampNeg + (1 : Int32).toNatClampNeg) := hw_6
      refine lv_iadd hx hb dX2_turnsInAll_16 ?_
      refine lv_topi (fun x_7 ex_7 => ?_)
      refine lv_istore_n (lv' := [(2, .int x_7), (3, .int 1), (0, .ref h), (1, .int i)]) hx hb dX2_turnsInAll_17 rfl hl (by decide) rfl (fun ls hl => ?_)
      obtain ⟨x_8, ex_8⟩ : ∃ y : Int32, y = 1 + 1 := ⟨_, rfl⟩
      obtain rfl : x_8 = 2 := by rw [ex_8]; decide
      refine lv_iinc (v := 2) (lv' := [(3, .int 2), (2, .int x_7), (0, .ref h), (1, .int i)]) hx hb dX2_turnsInAll_18 hl (k := 1) rfl (by decide) (by decide) rfl (fun ls hl => ?_)
      refine lv_goto (tgt := 4) hx hb dX2_turnsInAll_21 (by decide) ?_
      refine lv_iload_n hx hb dX2_turnsInAll_4 rfl (lv_at hl 0 rfl) ?_
      refine lv_iconst (v := 4) hx hb dX2_turnsInAll_5 (by decide) ?_
      refine lv_icmp_ge (tgt := 24) hx hb dX2_turnsInAll_6 (by decide) (fun c_9 => ?_) (fun c_9 => ?_)
      · exact absurd c_9 (by decide)
      · have tc_9 := t_nle c_9
        refine lv_iload_n hx hb dX2_turnsInAll_9 rfl (lv_at hl 1 rfl) ?_
        refine lv_aload_n hx hb dX2_turnsInAll_10 rfl (lv_at hl 2 rfl) ?_
        refine lv_iload_n hx hb dX2_turnsInAll_11 rfl (lv_at hl 3 rfl) ?_
        refine lv_iload_n hx hb dX2_turnsInAll_12 rfl (lv_at hl 0 rfl) ?_
        have hPc := hP.sub (ws' := [(h, .inr (2, [.ref a_holders, .ref a_taken])), (a_taken, .inl (cI, 96, .inl ft))]) [0, 1] rfl
        refine roV (As := [.int i, .int 2]) (rest := [.int x_7]) S (e_taken  (by omega) (by omega) (by omega) (by omega)) (cwV 2 hts gX2_turnsInAll_X2_turnsTaken rfl rfl rfl ⟨rfl, hd_X2_turnsTaken⟩ ⟨Nat.le_of_ble_eq_true rfl, Nat.le_of_ble_eq_true rfl⟩) hK hPc (va_recv hK.1 hPc (ci := 2) (q0 := 0) rfl rfl) rfl hl.1 rfl (Nat.le_of_ble_eq_true rfl) dX2_turnsInAll_13 ⟨Nat.le_of_ble_eq_true rfl, Nat.le_of_ble_eq_true rfl⟩ (fun r_10 hw_10 => ?_)
        have hw_10 : r_10 = ft (4 * i.toNatClampNeg + (2 : Int32).toNatClampNeg) := hw_10
        refine lv_iadd hx hb dX2_turnsInAll_16 ?_
        refine lv_topi (fun x_11 ex_11 => ?_)
        refine lv_istore_n (lv' := [(2, .int x_11), (3, .int 2), (0, .ref h), (1, .int i)]) hx hb dX2_turnsInAll_17 rfl hl (by decide) rfl (fun ls hl => ?_)
        obtain ⟨x_12, ex_12⟩ : ∃ y : Int32, y = 2 + 1 := ⟨_, rfl⟩
        obtain rfl : x_12 = 3 := by rw [ex_12]; decide
        refine lv_iinc (v := 3) (lv' := [(3, .int 3), (2, .int x_11), (0, .ref h), (1, .int i)]) hx hb dX2_turnsInAll_18 hl (k := 1) rfl (by decide) (by decide) rfl (fun ls hl => ?_)
        refine lv_goto (tgt := 4) hx hb dX2_turnsInAll_21 (by decide) ?_
        refine lv_iload_n hx hb dX2_turnsInAll_4 rfl (lv_at hl 0 rfl) ?_
        refine lv_iconst (v := 4) hx hb dX2_turnsInAll_5 (by decide) ?_
        refine lv_icmp_ge (tgt := 24) hx hb dX2_turnsInAll_6 (by decide) (fun c_13 => ?_) (fun c_13 => ?_)
        · exact absurd c_13 (by decide)
        · have tc_13 := t_nle c_13
          refine lv_iload_n hx hb dX2_turnsInAll_9 rfl (lv_at hl 1 rfl) ?_
          refine lv_aload_n hx hb dX2_turnsInAll_10 rfl (lv_at hl 2 rfl) ?_
          refine lv_iload_n hx hb dX2_turnsInAll_11 rfl (lv_at hl 3 rfl) ?_
          refine lv_iload_n hx hb dX2_turnsInAll_12 rfl (lv_at hl 0 rfl) ?_
          have hPc := hP.sub (ws' := [(h, .inr (2, [.ref a_holders, .ref a_taken])), (a_taken, .inl (cI, 96, .inl ft))]) [0, 1] rfl
          refine roV (As := [.int i, .int 3]) (rest := [.int x_11]) S (e_taken  (by omega) (by omega) (by omega) (by omega)) (cwV 2 hts gX2_turnsInAll_X2_turnsTaken rfl rfl rfl ⟨rfl, hd_X2_turnsTaken⟩ ⟨Nat.le_of_ble_eq_true rfl, Nat.le_of_ble_eq_true rfl⟩) hK hPc (va_recv hK.1 hPc (ci := 2) (q0 := 0) rfl rfl) rfl hl.1 rfl (Nat.le_of_ble_eq_true rfl) dX2_turnsInAll_13 ⟨Nat.le_of_ble_eq_true rfl, Nat.le_of_ble_eq_true rfl⟩ (fun r_14 hw_14 => ?_)
          have hw_14 : r_14 = ft (4 * i.toNatClampNeg + (3 : Int32).toNatClampNeg) := hw_14
          refine lv_iadd hx hb dX2_turnsInAll_16 ?_
          refine lv_topi (fun x_15 ex_15 => ?_)
          refine lv_istore_n (lv' := [(2, .int x_15), (3, .int 3), (0, .ref h), (1, .int i)]) hx hb dX2_turnsInAll_17 rfl hl (by decide) rfl (fun ls hl => ?_)
          obtain ⟨x_16, ex_16⟩ : ∃ y : Int32, y = 3 + 1 := ⟨_, rfl⟩
          obtain rfl : x_16 = 4 := by rw [ex_16]; decide
          refine lv_iinc (v := 4) (lv' := [(3, .int 4), (2, .int x_15), (0, .ref h), (1, .int i)]) hx hb dX2_turnsInAll_18 hl (k := 1) rfl (by decide) (by decide) rfl (fun ls hl => ?_)
          refine lv_goto (tgt := 4) hx hb dX2_turnsInAll_21 (by decide) ?_
          refine lv_iload_n hx hb dX2_turnsInAll_4 rfl (lv_at hl 0 rfl) ?_
          refine lv_iconst (v := 4) hx hb dX2_turnsInAll_5 (by decide) ?_
          refine lv_icmp_ge (tgt := 24) hx hb dX2_turnsInAll_6 (by decide) (fun c_17 => ?_) (fun c_17 => ?_)
          · have tc_17 := t_le c_17
            refine lv_iload_n hx hb dX2_turnsInAll_24 rfl (lv_at hl 1 rfl) ?_
            exact hret x_15 _ _ (show x_15 = sumT ft i from by subst_vars; rfl) rfl dX2_turnsInAll_25
          · exact absurd c_17 (by decide)

theorem in_E_turns_X11 : ∀ w ∈ wsX110, w ∈ wsX11_turns := tl_X11_turns_X11
set_option maxHeartbeats 8000000 in
set_option maxRecDepth 100000 in
theorem E_turns {l : Launch} {D : va_G} {cI cZ cB : ClassId} {h a_bells a_feasts a_tape a_reader a_rules a_monks a_duties a_gifts a_figures ma_priests ma_barred ma_cameOn ma_absent ma_absentFrom ma_absentTo ua_holders ua_taken : Nat} {v_today v_stock v_guestHeads v_guestRanks v_faultPlace v_candlesInAll mv_size mv_rows : Int32} {uft : Nat → Int32} {i k : Int32} (hmv_size0 : 0 ≤ mv_size.toInt) (hmv_size1 : mv_size.toInt ≤ 24) : Met l yX11_turns wsX11_turns ({ frames := 2, cells := 0, slots := 0, locals := 45 }) (RO D cI cZ cB [.ref h, .int i, .int k] [(h, .inr (10, [.ref a_bells, .ref a_feasts, .ref a_tape, .ref a_reader, .ref a_rules, .ref a_monks, .ref a_duties, .ref a_gifts, .ref a_figures, .int v_today, .int v_stock, .int v_guestHeads, .int v_guestRanks, .int v_faultPlace, .int v_candlesInAll])), (a_monks, .inr (5, [.ref ma_priests, .ref ma_barred, .ref ma_cameOn, .ref ma_absent, .ref ma_absentFrom, .ref ma_absentTo, .int mv_size, .int mv_rows])), (a_duties, .inr (2, [.ref ua_holders, .ref ua_taken])), (ua_taken, .inl (cI, 96, .inl uft))]) (vp_Si (fun r : Int32 => TurnAns mv_size.toInt uft i k r)) 0 0 (fun _ => False) := by
  refine ro_ret (cc := cX11_turns) (maxL := 3) (ty := .int) (own := RX11) (by decide) rfl rfl (Nat.le_of_ble_eq_true rfl) ?_
  intro p e s m args below meth c Q S hret hP hK ls hl
  obtain ⟨hx, hb, hml, hown, hts⟩ := id S
  have hl : lv_has ls 3 [(0, .ref h), (1, .int i), (2, .int k)] := hl
  have kkm1 : (-1 : Int32).toInt = -1 := by decide
  have kk0 : (0 : Int32).toInt = 0 := by decide
  have kk4 : (4 : Int32).toInt = 4 := by decide
  have lk0 := hts (.fieldLink RX11 47 "AbbeyHours" "monks" "LAbbeyHours$Monks;") (mc_X11_turns_r1 _ (List.mem_of_getElem? (i := 0) rfl))
  have lk1 := hts (.fieldLink RX11 54 "AbbeyHours" "duties" "LAbbeyHours$Duties;") (mc_X11_turns_r1 _ (List.mem_of_getElem? (i := 1) rfl))
  refine lv_aload_n hx hb dX11_turns_0 rfl (lv_at hl 0 rfl) ?_
  refine va_get (D := D) (ci := 10) (v := .ref a_monks) (C := RX11) (T := TX11) (N := 15) hx hb hts in_E_turns_X11 hown hK.1 hP 0 rfl rfl 5 (by decide) lk0 (fun _ h9 => h9) rfl dX11_turns_1 ?_
  refine lv_iload_n hx hb dX11_turns_4 rfl (lv_at hl 1 rfl) ?_
  have hPc := hP.sub (ws' := [(a_monks, .inr (5, [.ref ma_priests, .ref ma_barred, .ref ma_cameOn, .ref ma_absent, .ref ma_absentFrom, .ref ma_absentTo, .int mv_size, .int mv_rows]))]) [1] rfl
  refine roV (As := [.int i]) (rest := []) S (k_has  ) (cwV 1 hts gX11_turns_X5_has rfl rfl rfl ⟨rfl, hd_X5_has⟩ ⟨Nat.le_of_ble_eq_true rfl, Nat.le_of_ble_eq_true rfl⟩) hK hPc (va_recv hK.1 hPc (ci := 5) (q0 := 0) rfl rfl) rfl hl.1 rfl (Nat.le_of_ble_eq_true rfl) dX11_turns_5 ⟨Nat.le_of_ble_eq_true rfl, Nat.le_of_ble_eq_true rfl⟩ (fun r_1 hw_1 => ?_)
  have hw_1 : (r_1.toInt = 1 ∧ 0 ≤ i.toInt ∧ i.toInt < mv_size.toInt) ∨ (r_1.toInt = 0 ∧ (i.toInt < 0 ∨ mv_size.toInt ≤ i.toInt)) := hw_1
  refine lv_if_ne (tgt := 13) hx hb dX11_turns_8 (by decide) (fun c_2 => ?_) (fun c_2 => ?_)
  · have tc_2 := t_neq c_2
    refine lv_iload_n hx hb dX11_turns_13 rfl (lv_at hl 2 rfl) ?_
    refine lv_iconst (v := 4) hx hb dX11_turns_14 (by decide) ?_
    refine lv_icmp_ne (tgt := 27) hx hb dX11_turns_15 (by decide) (fun c_3 => ?_) (fun c_3 => ?_)
    · have tc_3 := t_neq c_3
      refine lv_iload_n hx hb dX11_turns_27 rfl (lv_at hl 2 rfl) ?_
      have hPc := hP.sub (ws' := []) [] rfl
      refine roS (As := [.int k]) (rest := []) S (w_isDuty  ) (va_cwS 1 hts gX11_turns_X11_isDuty rfl rfl rfl hd_X11_isDuty ⟨Nat.le_of_ble_eq_true rfl, Nat.le_of_ble_eq_true rfl⟩) hK hPc rfl hl.1 rfl (Nat.le_of_ble_eq_true rfl) dX11_turns_28 ⟨Nat.le_of_ble_eq_true rfl, Nat.le_of_ble_eq_true rfl⟩ (fun r_4 hw_4 => ?_)
      have hw_4 : (r_4.toInt = 1 ∧ 0 ≤ k.toInt ∧ k.toInt ≤ 3) ∨ (r_4.toInt = 0 ∧ (k.toInt < 0 ∨ 3 < k.toInt)) := hw_4
      refine lv_if_eq (tgt := 46) hx hb dX11_turns_31 (by decide) (fun c_5 => ?_) (fun c_5 => ?_)
      · have tc_5 := t_eq c_5
        refine lv_iconst (v := (-1)) hx hb dX11_turns_46 (by decide) ?_
        exact hret (-1) _ _ (show TurnAns mv_size.toInt uft i k (-1 : Int32) from by unfold TurnAns; first | exact ⟨fun h => by exfalso; omega, fun _ => hw_al, fun _ => by exfalso; omega⟩ | exact ⟨fun _ => hw_tk, fun _ => by exfalso; omega, fun h => by exfalso; omega⟩ | exact ⟨fun h => by exfalso; omega, fun h => by exfalso; omega, fun _ => by omega⟩) rfl dX11_turns_47
      · have tc_5 := t_neq c_5
        refine lv_aload_n hx hb dX11_turns_34 rfl (lv_at hl 0 rfl) ?_
        refine va_get (D := D) (ci := 10) (v := .ref a_duties) (C := RX11) (T := TX11) (N := 15) hx hb hts in_E_turns_X11 hown hK.1 hP 0 rfl rfl 6 (by decide) lk1 (fun _ h9 => h9) rfl dX11_turns_35 ?_
        refine lv_iload_n hx hb dX11_turns_38 rfl (lv_at hl 1 rfl) ?_
        refine lv_iload_n hx hb dX11_turns_39 rfl (lv_at hl 2 rfl) ?_
        have hPc := hP.sub (ws' := [(a_duties, .inr (2, [.ref ua_holders, .ref ua_taken])), (ua_taken, .inl (cI, 96, .inl uft))]) [2, 3] rfl
        refine roV (As := [.int i, .int k]) (rest := []) S (e_taken  (by omega) (by omega) (by omega) (by omega)) (cwV 2 hts gX11_turns_X2_turnsTaken rfl rfl rfl ⟨rfl, hd_X2_turnsTaken⟩ ⟨Nat.le_of_ble_eq_true rfl, Nat.le_of_ble_eq_true rfl⟩) hK hPc (va_recv hK.1 hPc (ci := 2) (q0 := 0) rfl rfl) rfl hl.1 rfl (Nat.le_of_ble_eq_true rfl) dX11_turns_40 ⟨Nat.le_of_ble_eq_true rfl, Nat.le_of_ble_eq_true rfl⟩ (fun r_tk hw_tk => ?_)
        have hw_tk : r_tk = uft (4 * i.toNatClampNeg + k.toNatClampNeg) := hw_tk
        refine lv_goto (tgt := 47) hx hb dX11_turns_43 (by decide) ?_
        exact hret r_tk _ _ (show TurnAns mv_size.toInt uft i k r_tk from by unfold TurnAns; first | exact ⟨fun h => by exfalso; omega, fun _ => hw_al, fun _ => by exfalso; omega⟩ | exact ⟨fun _ => hw_tk, fun _ => by exfalso; omega, fun h => by exfalso; omega⟩ | exact ⟨fun h => by exfalso; omega, fun h => by exfalso; omega, fun _ => by omega⟩) rfl dX11_turns_47
    · have tc_3 := t_eq c_3
      refine lv_aload_n hx hb dX11_turns_18 rfl (lv_at hl 0 rfl) ?_
      refine va_get (D := D) (ci := 10) (v := .ref a_duties) (C := RX11) (T := TX11) (N := 15) hx hb hts in_E_turns_X11 hown hK.1 hP 0 rfl rfl 6 (by decide) lk1 (fun _ h9 => h9) rfl dX11_turns_19 ?_
      refine lv_iload_n hx hb dX11_turns_22 rfl (lv_at hl 1 rfl) ?_
      have hPc := hP.sub (ws' := [(a_duties, .inr (2, [.ref ua_holders, .ref ua_taken])), (ua_taken, .inl (cI, 96, .inl uft))]) [2, 3] rfl
      refine roV (As := [.int i]) (rest := []) S (e_inAll  (by omega) (by omega)) (cwV 1 hts gX11_turns_X2_turnsInAll rfl rfl rfl ⟨rfl, hd_X2_turnsInAll⟩ ⟨Nat.le_of_ble_eq_true rfl, Nat.le_of_ble_eq_true rfl⟩) hK hPc (va_recv hK.1 hPc (ci := 2) (q0 := 0) rfl rfl) rfl hl.1 rfl (Nat.le_of_ble_eq_true rfl) dX11_turns_23 ⟨Nat.le_of_ble_eq_true rfl, Nat.le_of_ble_eq_true rfl⟩ (fun r_al hw_al => ?_)
      have hw_al : r_al = sumT uft i := hw_al
      exact hret r_al _ _ (show TurnAns mv_size.toInt uft i k r_al from by unfold TurnAns; first | exact ⟨fun h => by exfalso; omega, fun _ => hw_al, fun _ => by exfalso; omega⟩ | exact ⟨fun _ => hw_tk, fun _ => by exfalso; omega, fun h => by exfalso; omega⟩ | exact ⟨fun h => by exfalso; omega, fun h => by exfalso; omega, fun _ => by omega⟩) rfl dX11_turns_26
  · have tc_2 := t_eq c_2
    refine lv_iconst (v := (-1)) hx hb dX11_turns_11 (by decide) ?_
    exact hret (-1) _ _ (show TurnAns mv_size.toInt uft i k (-1 : Int32) from by unfold TurnAns; first | exact ⟨fun h => by exfalso; omega, fun _ => hw_al, fun _ => by exfalso; omega⟩ | exact ⟨fun _ => hw_tk, fun _ => by exfalso; omega, fun h => by exfalso; omega⟩ | exact ⟨fun h => by exfalso; omega, fun h => by exfalso; omega, fun _ => by omega⟩) rfl dX11_turns_12

theorem in_M_turns_X12 : ∀ w ∈ wsX120, w ∈ wsX12_turns := tl_X12_turns_X12
set_option maxHeartbeats 8000000 in
set_option maxRecDepth 100000 in
theorem M_turns {l : Launch} {D : va_G} {cI cZ cB : ClassId} {h a_isPriest a_bars a_joined a_turns a_awayMonk a_awayFrom a_awayTo a_feastDay a_rank a_isWeekly a_isDouble a_giftDay a_giftFrom a_owed a_said a_spared a_leaveGift a_leaveFrom a_leaveTo a_lateDay a_lateOffice a_lateBy a_guests a_who a_used a_lacks a_candles a_masses a_owing a_heldOn a_waits a_tape a_text a_statements a_taken a_sort a_first a_second : Nat} {v_today v_monks v_aways v_feasts v_gifts v_leaves v_lates v_store v_allCandles v_taped v_size v_at v_fault v_rules v_wordEnd v_number : Int32} {f_turns : Nat → Int32} {i k : Int32} (h0_monks : 0 ≤ v_monks.toInt) (h1_monks : v_monks.toInt ≤ 24) : Met l yX12_turns wsX12_turns ({ frames := 2, cells := 0, slots := 0, locals := 43 }) (RO D cI cZ cB [.ref h, .int i, .int k] [(h, .inr (11, [.int v_today, .int v_monks, .int v_aways, .int v_feasts, .int v_gifts, .int v_leaves, .int v_lates, .int v_store, .int v_allCandles, .ref a_isPriest, .ref a_bars, .ref a_joined, .ref a_turns, .ref a_awayMonk, .ref a_awayFrom, .ref a_awayTo, .ref a_feastDay, .ref a_rank, .ref a_isWeekly, .ref a_isDouble, .ref a_giftDay, .ref a_giftFrom, .ref a_owed, .ref a_said, .ref a_spared, .ref a_leaveGift, .ref a_leaveFrom, .ref a_leaveTo, .ref a_lateDay, .ref a_lateOffice, .ref a_lateBy, .ref a_guests, .ref a_who, .ref a_used, .ref a_lacks, .ref a_candles, .ref a_masses, .ref a_owing, .ref a_heldOn, .ref a_waits, .ref a_tape, .ref a_text, .int v_taped, .int v_size, .int v_at, .int v_fault, .int v_rules, .ref a_statements, .ref a_taken, .ref a_sort, .ref a_first, .ref a_second, .int v_wordEnd, .int v_number])), (a_turns, .inl (cI, 96, .inl f_turns))]) (vp_Si (fun r : Int32 => TurnAns v_monks.toInt f_turns i k r)) 0 0 (fun _ => False) := by
  refine ro_ret (cc := cX12_turns) (maxL := 5) (ty := .int) (own := RX12) (by decide) rfl rfl (Nat.le_of_ble_eq_true rfl) ?_
  intro p e s m args below meth c Q S hret hP hK ls hl
  obtain ⟨hx, hb, hml, hown, hts⟩ := id S
  have hl : lv_has ls 5 [(0, .ref h), (1, .int i), (2, .int k)] := hl
  have kkm1 : (-1 : Int32).toInt = -1 := by decide
  have kk0 : (0 : Int32).toInt = 0 := by decide
  have kk1 : (1 : Int32).toInt = 1 := by decide
  have kk2 : (2 : Int32).toInt = 2 := by decide
  have kk3 : (3 : Int32).toInt = 3 := by decide
  have kk4 : (4 : Int32).toInt = 4 := by decide
  have lk0 := hts (.fieldLink RX12 20 "AbbeyHoursModel" "turns" "[I") (List.mem_cons_of_mem _ (List.mem_append_left _ (List.mem_of_getElem? (i := 0) rfl)))
  refine lv_aload_n hx hb dX12_turns_0 rfl (lv_at hl 0 rfl) ?_
  refine lv_iload_n hx hb dX12_turns_1 rfl (lv_at hl 1 rfl) ?_
  have hPc := hP.sub (ws' := [(h, .inr (11, [.int v_today, .int v_monks, .int v_aways, .int v_feasts, .int v_gifts, .int v_leaves, .int v_lates, .int v_store, .int v_allCandles, .ref a_isPriest, .ref a_bars, .ref a_joined, .ref a_turns, .ref a_awayMonk, .ref a_awayFrom, .ref a_awayTo, .ref a_feastDay, .ref a_rank, .ref a_isWeekly, .ref a_isDouble, .ref a_giftDay, .ref a_giftFrom, .ref a_owed, .ref a_said, .ref a_spared, .ref a_leaveGift, .ref a_leaveFrom, .ref a_leaveTo, .ref a_lateDay, .ref a_lateOffice, .ref a_lateBy, .ref a_guests, .ref a_who, .ref a_used, .ref a_lacks, .ref a_candles, .ref a_masses, .ref a_owing, .ref a_heldOn, .ref a_waits, .ref a_tape, .ref a_text, .int v_taped, .int v_size, .int v_at, .int v_fault, .int v_rules, .ref a_statements, .ref a_taken, .ref a_sort, .ref a_first, .ref a_second, .int v_wordEnd, .int v_number]))]) [0] rfl
  refine roV (As := [.int i]) (rest := []) S (n_isMonk  (by omega) (by omega)) (cwV 1 hts gX12_turns_X12_isMonk rfl rfl rfl ⟨rfl, hd_X12_isMonk⟩ ⟨Nat.le_of_ble_eq_true rfl, Nat.le_of_ble_eq_true rfl⟩) hK hPc (va_recv hK.1 hPc (ci := 11) (q0 := 0) rfl rfl) rfl hl.1 rfl (Nat.le_of_ble_eq_true rfl) dX12_turns_2 ⟨Nat.le_of_ble_eq_true rfl, Nat.le_of_ble_eq_true rfl⟩ (fun r_1 hw_1 => ?_)
  have hw_1 : (r_1.toInt = 1 ∧ 0 ≤ i.toInt ∧ i.toInt < v_monks.toInt) ∨ (r_1.toInt = 0 ∧ (i.toInt < 0 ∨ v_monks.toInt ≤ i.toInt)) := hw_1
  refine lv_if_eq (tgt := 17) hx hb dX12_turns_5 (by decide) (fun c_2 => ?_) (fun c_2 => ?_)
  · have tc_2 := t_eq c_2
    refine lv_iconst (v := (-1)) hx hb dX12_turns_17 (by decide) ?_
    exact hret (-1) _ _ (show TurnAns v_monks.toInt f_turns i k (-1 : Int32) from by unfold TurnAns; first | exact ⟨fun _ => by rw [eyv, ix4 (i := i) (k := k) (by omega) (by omega) (by omega)], fun _ => by exfalso; omega, fun h => by exfalso; omega⟩ | exact ⟨fun h => by exfalso; omega, fun h => by exfalso; omega, fun _ => by omega⟩ | exact ⟨fun h => by exfalso; omega, fun _ => by subst_vars; rfl, fun _ => by exfalso; omega⟩) rfl dX12_turns_18
  · have tc_2 := t_neq c_2
    refine lv_iload_n hx hb dX12_turns_8 rfl (lv_at hl 2 rfl) ?_
    refine lv_iconst (v := 0) hx hb dX12_turns_9 (by decide) ?_
    refine lv_iconst (v := 4) hx hb dX12_turns_10 (by decide) ?_
    have hPc := hP.sub (ws' := []) [] rfl
    refine roS (As := [.int k, .int 0, .int 4]) (rest := []) S (m_isIn  ) (va_cwS 3 hts gX12_turns_X12_isIn rfl rfl rfl hd_X12_isIn ⟨Nat.le_of_ble_eq_true rfl, Nat.le_of_ble_eq_true rfl⟩) hK hPc rfl hl.1 rfl (Nat.le_of_ble_eq_true rfl) dX12_turns_11 ⟨Nat.le_of_ble_eq_true rfl, Nat.le_of_ble_eq_true rfl⟩ (fun r_3 hw_3 => ?_)
    have hw_3 : (r_3.toInt = 1 ∧ (0 : Int32).toInt ≤ k.toInt ∧ k.toInt ≤ (4 : Int32).toInt) ∨ (r_3.toInt = 0 ∧ (k.toInt < (0 : Int32).toInt ∨ (4 : Int32).toInt < k.toInt)) := hw_3
    refine lv_if_ne (tgt := 19) hx hb dX12_turns_14 (by decide) (fun c_4 => ?_) (fun c_4 => ?_)
    · have tc_4 := t_neq c_4
      refine lv_iload_n hx hb dX12_turns_19 rfl (lv_at hl 2 rfl) ?_
      refine lv_iconst (v := 4) hx hb dX12_turns_20 (by decide) ?_
      refine lv_icmp_ge (tgt := 35) hx hb dX12_turns_21 (by decide) (fun c_5 => ?_) (fun c_5 => ?_)
      · have tc_5 := t_le c_5
        refine lv_iconst (v := 0) hx hb dX12_turns_35 (by decide) ?_
        refine lv_istore_n (lv' := [(3, .int 0), (0, .ref h), (1, .int i), (2, .int k)]) hx hb dX12_turns_36 rfl hl (by decide) rfl (fun ls hl => ?_)
        refine lv_iconst (v := 0) hx hb dX12_turns_37 (by decide) ?_
        refine lv_istore (lv' := [(4, .int 0), (3, .int 0), (0, .ref h), (1, .int i), (2, .int k)]) hx hb dX12_turns_38 hl (by decide) rfl (fun ls hl => ?_)
        refine lv_iload hx hb dX12_turns_40 (lv_at hl 0 rfl) ?_
        refine lv_iconst (v := 4) hx hb dX12_turns_42 (by decide) ?_
        refine lv_icmp_ge (tgt := 66) hx hb dX12_turns_43 (by decide) (fun c_6 => ?_) (fun c_6 => ?_)
        · exact absurd c_6 (by decide)
        · have tc_6 := t_nle c_6
          refine lv_iload_n hx hb dX12_turns_46 rfl (lv_at hl 1 rfl) ?_
          refine lv_aload_n hx hb dX12_turns_47 rfl (lv_at hl 2 rfl) ?_
          refine va_get (D := D) (ci := 11) (v := .ref a_turns) (C := RX12) (T := TX12) (N := 54) hx hb hts in_M_turns_X12 hown hK.1 hP 0 rfl rfl 12 (by decide) lk0 (fun _ h9 => h9) rfl dX12_turns_48 ?_
          refine lv_iconst (v := 4) hx hb dX12_turns_51 (by decide) ?_
          refine lv_iload_n hx hb dX12_turns_52 rfl (lv_at hl 3 rfl) ?_
          refine lv_imul hx hb dX12_turns_53 ?_
          refine lv_topi (fun x_7 ex_7 => ?_)
          first | have tx_7 := t_mulL kk4 ex_7 (by omega) (by omega) | skip
          refine lv_iload hx hb dX12_turns_54 (lv_at hl 0 rfl) ?_
          refine lv_iadd hx hb dX12_turns_56 ?_
          refine lv_topi (fun x_8 ex_8 => ?_)
          first | have tx_8 := t_add ex_8 (by omega) (by omega) | skip
          refine va_iald hx hb hK.1 hP 1 0 rfl rfl (t_in (by omega) (by omega)) dX12_turns_57 ?_
          refine lv_topi (fun y_9 ey_9 => ?_)
          rw [ix4 (i := i) (k := 0) (by omega) (by omega) (by omega)] at ey_9
          refine lv_iadd hx hb dX12_turns_58 ?_
          refine lv_topi (fun x_10 ex_10 => ?_)
          refine lv_istore_n (lv' := [(3, .int x_10), (4, .int 0), (0, .ref h), (1, .int i), (2, .int k)]) hx hb dX12_turns_59 rfl hl (by decide) rfl (fun ls hl => ?_)
          obtain ⟨x_11, ex_11⟩ : ∃ y : Int32, y = 0 + 1 := ⟨_, rfl⟩
          obtain rfl : x_11 = 1 := by rw [ex_11]; decide
          refine lv_iinc (v := 1) (lv' := [(4, .int 1), (3, .int x_10), (0, .ref h), (1, .int i), (2, .int k)]) hx hb dX12_turns_60 hl (k := 1) rfl (by decide) (by decide) rfl (fun ls hl => ?_)
          refine lv_goto (tgt := 40) hx hb dX12_turns_63 (by decide) ?_
          refine lv_iload hx hb dX12_turns_40 (lv_at hl 0 rfl) ?_
          refine lv_iconst (v := 4) hx hb dX12_turns_42 (by decide) ?_
          refine lv_icmp_ge (tgt := 66) hx hb dX12_turns_43 (by decide) (fun c_12 => ?_) (fun c_12 => ?_)
          · exact absurd c_12 (by decide)
          · have tc_12 := t_nle c_12
            refine lv_iload_n hx hb dX12_turns_46 rfl (lv_at hl 1 rfl) ?_
            refine lv_aload_n hx hb dX12_turns_47 rfl (lv_at hl 2 rfl) ?_
            refine va_get (D := D) (ci := 11) (v := .ref a_turns) (C := RX12) (T := TX12) (N := 54) hx hb hts in_M_turns_X12 hown hK.1 hP 0 rfl rfl 12 (by decide) lk0 (fun _ h9 => h9) rfl dX12_turns_48 ?_
            refine lv_iconst (v := 4) hx hb dX12_turns_51 (by decide) ?_
            refine lv_iload_n hx hb dX12_turns_52 rfl (lv_at hl 3 rfl) ?_
            refine lv_imul hx hb dX12_turns_53 ?_
            refine lv_topi (fun x_13 ex_13 => ?_)
            first | have tx_13 := t_mulL kk4 ex_13 (by omega) (by omega) | skip
            refine lv_iload hx hb dX12_turns_54 (lv_at hl 0 rfl) ?_
            refine lv_iadd hx hb dX12_turns_56 ?_
            refine lv_topi (fun x_14 ex_14 => ?_)
            first | have tx_14 := t_add ex_14 (by omega) (by omega) | skip
            refine va_iald hx hb hK.1 hP 1 0 rfl rfl (t_in (by omega) (by omega)) dX12_turns_57 ?_
            refine lv_topi (fun y_15 ey_15 => ?_)
            rw [ix4 (i := i) (k := 1) (by omega) (by omega) (by omega)] at ey_15
            refine lv_iadd hx hb dX12_turns_58 ?_
            refine lv_topi (fun x_16 ex_16 => ?_)
            refine lv_istore_n (lv' := [(3, .int x_16), (4, .int 1), (0, .ref h), (1, .int i), (2, .int k)]) hx hb dX12_turns_59 rfl hl (by decide) rfl (fun ls hl => ?_)
            obtain ⟨x_17, ex_17⟩ : ∃ y : Int32, y = 1 + 1 := ⟨_, rfl⟩
            obtain rfl : x_17 = 2 := by rw [ex_17]; decide
            refine lv_iinc (v := 2) (lv' := [(4, .int 2), (3, .int x_16), (0, .ref h), (1, .int i), (2, .int k)]) hx hb dX12_turns_60 hl (k := 1) rfl (by decide) (by decide) rfl (fun ls hl => ?_)
            refine lv_goto (tgt := 40) hx hb dX12_turns_63 (by decide) ?_
            refine lv_iload hx hb dX12_turns_40 (lv_at hl 0 rfl) ?_
            refine lv_iconst (v := 4) hx hb dX12_turns_42 (by decide) ?_
            refine lv_icmp_ge (tgt := 66) hx hb dX12_turns_43 (by decide) (fun c_18 => ?_) (fun c_18 => ?_)
            · exact absurd c_18 (by decide)
            · have tc_18 := t_nle c_18
              refine lv_iload_n hx hb dX12_turns_46 rfl (lv_at hl 1 rfl) ?_
              refine lv_aload_n hx hb dX12_turns_47 rfl (lv_at hl 2 rfl) ?_
              refine va_get (D := D) (ci := 11) (v := .ref a_turns) (C := RX12) (T := TX12) (N := 54) hx hb hts in_M_turns_X12 hown hK.1 hP 0 rfl rfl 12 (by decide) lk0 (fun _ h9 => h9) rfl dX12_turns_48 ?_
              refine lv_iconst (v := 4) hx hb dX12_turns_51 (by decide) ?_
              refine lv_iload_n hx hb dX12_turns_52 rfl (lv_at hl 3 rfl) ?_
              refine lv_imul hx hb dX12_turns_53 ?_
              refine lv_topi (fun x_19 ex_19 => ?_)
              first | have tx_19 := t_mulL kk4 ex_19 (by omega) (by omega) | skip
              refine lv_iload hx hb dX12_turns_54 (lv_at hl 0 rfl) ?_
              refine lv_iadd hx hb dX12_turns_56 ?_
              refine lv_topi (fun x_20 ex_20 => ?_)
              first | have tx_20 := t_add ex_20 (by omega) (by omega) | skip
              refine va_iald hx hb hK.1 hP 1 0 rfl rfl (t_in (by omega) (by omega)) dX12_turns_57 ?_
              refine lv_topi (fun y_21 ey_21 => ?_)
              rw [ix4 (i := i) (k := 2) (by omega) (by omega) (by omega)] at ey_21
              refine lv_iadd hx hb dX12_turns_58 ?_
              refine lv_topi (fun x_22 ex_22 => ?_)
              refine lv_istore_n (lv' := [(3, .int x_22), (4, .int 2), (0, .ref h), (1, .int i), (2, .int k)]) hx hb dX12_turns_59 rfl hl (by decide) rfl (fun ls hl => ?_)
              obtain ⟨x_23, ex_23⟩ : ∃ y : Int32, y = 2 + 1 := ⟨_, rfl⟩
              obtain rfl : x_23 = 3 := by rw [ex_23]; decide
              refine lv_iinc (v := 3) (lv' := [(4, .int 3), (3, .int x_22), (0, .ref h), (1, .int i), (2, .int k)]) hx hb dX12_turns_60 hl (k := 1) rfl (by decide) (by decide) rfl (fun ls hl => ?_)
              refine lv_goto (tgt := 40) hx hb dX12_turns_63 (by decide) ?_
              refine lv_iload hx hb dX12_turns_40 (lv_at hl 0 rfl) ?_
              refine lv_iconst (v := 4) hx hb dX12_turns_42 (by decide) ?_
              refine lv_icmp_ge (tgt := 66) hx hb dX12_turns_43 (by decide) (fun c_24 => ?_) (fun c_24 => ?_)
              · exact absurd c_24 (by decide)
              · have tc_24 := t_nle c_24
                refine lv_iload_n hx hb dX12_turns_46 rfl (lv_at hl 1 rfl) ?_
                refine lv_aload_n hx hb dX12_turns_47 rfl (lv_at hl 2 rfl) ?_
                refine va_get (D := D) (ci := 11) (v := .ref a_turns) (C := RX12) (T := TX12) (N := 54) hx hb hts in_M_turns_X12 hown hK.1 hP 0 rfl rfl 12 (by decide) lk0 (fun _ h9 => h9) rfl dX12_turns_48 ?_
                refine lv_iconst (v := 4) hx hb dX12_turns_51 (by decide) ?_
                refine lv_iload_n hx hb dX12_turns_52 rfl (lv_at hl 3 rfl) ?_
                refine lv_imul hx hb dX12_turns_53 ?_
                refine lv_topi (fun x_25 ex_25 => ?_)
                first | have tx_25 := t_mulL kk4 ex_25 (by omega) (by omega) | skip
                refine lv_iload hx hb dX12_turns_54 (lv_at hl 0 rfl) ?_
                refine lv_iadd hx hb dX12_turns_56 ?_
                refine lv_topi (fun x_26 ex_26 => ?_)
                first | have tx_26 := t_add ex_26 (by omega) (by omega) | skip
                refine va_iald hx hb hK.1 hP 1 0 rfl rfl (t_in (by omega) (by omega)) dX12_turns_57 ?_
                refine lv_topi (fun y_27 ey_27 => ?_)
                rw [ix4 (i := i) (k := 3) (by omega) (by omega) (by omega)] at ey_27
                refine lv_iadd hx hb dX12_turns_58 ?_
                refine lv_topi (fun x_28 ex_28 => ?_)
                refine lv_istore_n (lv' := [(3, .int x_28), (4, .int 3), (0, .ref h), (1, .int i), (2, .int k)]) hx hb dX12_turns_59 rfl hl (by decide) rfl (fun ls hl => ?_)
                obtain ⟨x_29, ex_29⟩ : ∃ y : Int32, y = 3 + 1 := ⟨_, rfl⟩
                obtain rfl : x_29 = 4 := by rw [ex_29]; decide
                refine lv_iinc (v := 4) (lv' := [(4, .int 4), (3, .int x_28), (0, .ref h), (1, .int i), (2, .int k)]) hx hb dX12_turns_60 hl (k := 1) rfl (by decide) (by decide) rfl (fun ls hl => ?_)
                refine lv_goto (tgt := 40) hx hb dX12_turns_63 (by decide) ?_
                refine lv_iload hx hb dX12_turns_40 (lv_at hl 0 rfl) ?_
                refine lv_iconst (v := 4) hx hb dX12_turns_42 (by decide) ?_
                refine lv_icmp_ge (tgt := 66) hx hb dX12_turns_43 (by decide) (fun c_30 => ?_) (fun c_30 => ?_)
                · have tc_30 := t_le c_30
                  refine lv_iload_n hx hb dX12_turns_66 rfl (lv_at hl 1 rfl) ?_
                  exact hret x_28 _ _ (show TurnAns v_monks.toInt f_turns i k x_28 from by unfold TurnAns; first | exact ⟨fun _ => by rw [eyv, ix4 (i := i) (k := k) (by omega) (by omega) (by omega)], fun _ => by exfalso; omega, fun h => by exfalso; omega⟩ | exact ⟨fun h => by exfalso; omega, fun h => by exfalso; omega, fun _ => by omega⟩ | exact ⟨fun h => by exfalso; omega, fun _ => by subst_vars; rfl, fun _ => by exfalso; omega⟩) rfl dX12_turns_67
                · exact absurd c_30 (by decide)
      · have tc_5 := t_nle c_5
        refine lv_aload_n hx hb dX12_turns_24 rfl (lv_at hl 0 rfl) ?_
        refine va_get (D := D) (ci := 11) (v := .ref a_turns) (C := RX12) (T := TX12) (N := 54) hx hb hts in_M_turns_X12 hown hK.1 hP 0 rfl rfl 12 (by decide) lk0 (fun _ h9 => h9) rfl dX12_turns_25 ?_
        refine lv_iconst (v := 4) hx hb dX12_turns_28 (by decide) ?_
        refine lv_iload_n hx hb dX12_turns_29 rfl (lv_at hl 1 rfl) ?_
        refine lv_imul hx hb dX12_turns_30 ?_
        refine lv_topi (fun x_31 ex_31 => ?_)
        first | have tx_31 := t_mulL kk4 ex_31 (by omega) (by omega) | skip
        refine lv_iload_n hx hb dX12_turns_31 rfl (lv_at hl 2 rfl) ?_
        refine lv_iadd hx hb dX12_turns_32 ?_
        refine lv_topi (fun ix eix => ?_)
        first | have tix := t_add eix (by omega) (by omega) | skip
        refine va_iald hx hb hK.1 hP 1 0 rfl rfl (t_in (by omega) (by omega)) dX12_turns_33 ?_
        refine lv_topi (fun yv eyv => ?_)
        exact hret yv _ _ (show TurnAns v_monks.toInt f_turns i k yv from by unfold TurnAns; first | exact ⟨fun _ => by rw [eyv, ix4 (i := i) (k := k) (by omega) (by omega) (by omega)], fun _ => by exfalso; omega, fun h => by exfalso; omega⟩ | exact ⟨fun h => by exfalso; omega, fun h => by exfalso; omega, fun _ => by omega⟩ | exact ⟨fun h => by exfalso; omega, fun _ => by subst_vars; rfl, fun _ => by exfalso; omega⟩) rfl dX12_turns_34
    · have tc_4 := t_eq c_4
      refine lv_iconst (v := (-1)) hx hb dX12_turns_17 (by decide) ?_
      exact hret (-1) _ _ (show TurnAns v_monks.toInt f_turns i k (-1 : Int32) from by unfold TurnAns; first | exact ⟨fun _ => by rw [eyv, ix4 (i := i) (k := k) (by omega) (by omega) (by omega)], fun _ => by exfalso; omega, fun h => by exfalso; omega⟩ | exact ⟨fun h => by exfalso; omega, fun h => by exfalso; omega, fun _ => by omega⟩ | exact ⟨fun h => by exfalso; omega, fun _ => by subst_vars; rfl, fun _ => by exfalso; omega⟩) rfl dX12_turns_18

