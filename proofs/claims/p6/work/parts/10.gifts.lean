theorem in_g_size_X4 : ∀ w ∈ wsX40, w ∈ wsX4_size := tl_X4_size_X4
set_option maxHeartbeats 8000000 in
set_option maxRecDepth 100000 in
theorem g_size {l : Launch} {D : va_G} {cI cZ cB : ClassId} {h a_weekly a_doubled a_dueOn a_owed a_said a_spared a_leaveOf a_leaveFrom a_leaveTo : Nat} {v_size v_rows : Int32}  : Met l yX4_size wsX4_size ({ frames := 0, cells := 0, slots := 0, locals := 0 }) (RO D cI cZ cB [.ref h] [(h, .inr (4, [.ref a_weekly, .ref a_doubled, .ref a_dueOn, .ref a_owed, .ref a_said, .ref a_spared, .ref a_leaveOf, .ref a_leaveFrom, .ref a_leaveTo, .int v_size, .int v_rows]))]) (vp_Si (fun r : Int32 => r = v_size)) 0 0 (fun _ => False) := by
  refine ro_ret (cc := cX4_size) (maxL := 1) (ty := .int) (own := RX4) (by decide) rfl rfl (Nat.le_of_ble_eq_true rfl) ?_
  intro p e s m args below meth c Q S hret hP hK ls hl
  obtain ⟨hx, hb, hml, hown, hts⟩ := id S
  have hl : lv_has ls 1 [(0, .ref h)] := hl
  have kk0 : (0 : Int32).toInt = 0 := by decide
  have lk0 := hts (.fieldLink RX4 40 "AbbeyHours$Gifts" "size" "I") (List.mem_cons_of_mem _ (List.mem_append_left _ (List.mem_of_getElem? (i := 0) rfl)))
  refine lv_aload_n hx hb dX4_size_0 rfl (lv_at hl 0 rfl) ?_
  refine va_get (D := D) (ci := 4) (v := .int v_size) (C := RX4) (T := TX4) (N := 11) hx hb hts in_g_size_X4 hown hK.1 hP 0 rfl rfl 9 (by decide) lk0 (fun _ h9 => h9) rfl dX4_size_1 ?_
  exact hret v_size _ _ (show v_size = v_size from rfl) rfl dX4_size_4

theorem in_g_has_X4 : ∀ w ∈ wsX40, w ∈ wsX4_has := tl_X4_has_X4
set_option maxHeartbeats 8000000 in
set_option maxRecDepth 100000 in
theorem g_has {l : Launch} {D : va_G} {cI cZ cB : ClassId} {h a_weekly a_doubled a_dueOn a_owed a_said a_spared a_leaveOf a_leaveFrom a_leaveTo : Nat} {v_size v_rows : Int32} {i : Int32}  : Met l yX4_has wsX4_has ({ frames := 0, cells := 0, slots := 0, locals := 0 }) (RO D cI cZ cB [.ref h, .int i] [(h, .inr (4, [.ref a_weekly, .ref a_doubled, .ref a_dueOn, .ref a_owed, .ref a_said, .ref a_spared, .ref a_leaveOf, .ref a_leaveFrom, .ref a_leaveTo, .int v_size, .int v_rows]))]) (vp_Si (fun r : Int32 => (r.toInt = 1 ∧ 0 ≤ i.toInt ∧ i.toInt < v_size.toInt) ∨ (r.toInt = 0 ∧ (i.toInt < 0 ∨ v_size.toInt ≤ i.toInt)))) 0 0 (fun _ => False) := by
  refine ro_ret (cc := cX4_has) (maxL := 2) (ty := .boolean) (own := RX4) (by decide) rfl rfl (Nat.le_of_ble_eq_true rfl) ?_
  intro p e s m args below meth c Q S hret hP hK ls hl
  obtain ⟨hx, hb, hml, hown, hts⟩ := id S
  have hl : lv_has ls 2 [(0, .ref h), (1, .int i)] := hl
  have kk0 : (0 : Int32).toInt = 0 := by decide
  have kk1 : (1 : Int32).toInt = 1 := by decide
  have lk0 := hts (.fieldLink RX4 40 "AbbeyHours$Gifts" "size" "I") (List.mem_cons_of_mem _ (List.mem_append_left _ (List.mem_of_getElem? (i := 0) rfl)))
  refine lv_iload_n hx hb dX4_has_0 rfl (lv_at hl 1 rfl) ?_
  refine lv_if_lt (tgt := 16) hx hb dX4_has_1 (by decide) (fun c_1 => ?_) (fun c_1 => ?_)
  · have tc_1 := t_lt c_1
    refine lv_iconst (v := 0) hx hb dX4_has_16 (by decide) ?_
    exact hret 0 _ _ (show ((0 : Int32).toInt = 1 ∧ 0 ≤ i.toInt ∧ i.toInt < v_size.toInt) ∨ ((0 : Int32).toInt = 0 ∧ (i.toInt < 0 ∨ v_size.toInt ≤ i.toInt)) from by omega) rfl dX4_has_17
  · have tc_1 := t_nlt c_1
    refine lv_iload_n hx hb dX4_has_4 rfl (lv_at hl 1 rfl) ?_
    refine lv_aload_n hx hb dX4_has_5 rfl (lv_at hl 0 rfl) ?_
    refine va_get (D := D) (ci := 4) (v := .int v_size) (C := RX4) (T := TX4) (N := 11) hx hb hts in_g_has_X4 hown hK.1 hP 0 rfl rfl 9 (by decide) lk0 (fun _ h9 => h9) rfl dX4_has_6 ?_
    refine lv_icmp_ge (tgt := 16) hx hb dX4_has_9 (by decide) (fun c_2 => ?_) (fun c_2 => ?_)
    · have tc_2 := t_le c_2
      refine lv_iconst (v := 0) hx hb dX4_has_16 (by decide) ?_
      exact hret 0 _ _ (show ((0 : Int32).toInt = 1 ∧ 0 ≤ i.toInt ∧ i.toInt < v_size.toInt) ∨ ((0 : Int32).toInt = 0 ∧ (i.toInt < 0 ∨ v_size.toInt ≤ i.toInt)) from by omega) rfl dX4_has_17
    · have tc_2 := t_nle c_2
      refine lv_iconst (v := 1) hx hb dX4_has_12 (by decide) ?_
      refine lv_goto (tgt := 17) hx hb dX4_has_13 (by decide) ?_
      exact hret 1 _ _ (show ((1 : Int32).toInt = 1 ∧ 0 ≤ i.toInt ∧ i.toInt < v_size.toInt) ∨ ((1 : Int32).toInt = 0 ∧ (i.toInt < 0 ∨ v_size.toInt ≤ i.toInt)) from by omega) rfl dX4_has_17

theorem in_g_enter_X4 : ∀ w ∈ wsX40, w ∈ wsX4_enter := tl_X4_enter_X4
set_option maxHeartbeats 8000000 in
set_option maxRecDepth 100000 in
theorem g_enter {l : Launch} {D : va_G} {cI cZ cB : ClassId} {sz : Nat} {h a_weekly a_doubled a_dueOn a_owed a_said a_spared a_leaveOf a_leaveFrom a_leaveTo : Nat} {v_size v_rows : Int32} {f_weekly f_doubled f_dueOn : Nat → Int32} {px q t : Int32} (hv_size0 : 0 ≤ v_size.toInt) (hv_size1 : v_size.toInt ≤ 40) : Met l yX4_enter wsX4_enter ({ frames := 0, cells := 0, slots := 0, locals := 0 }) (RW D cI cZ cB [.ref h, .int px, .int q, .int t] sz [(h, .inr (4, [.ref a_weekly, .ref a_doubled, .ref a_dueOn, .ref a_owed, .ref a_said, .ref a_spared, .ref a_leaveOf, .ref a_leaveFrom, .ref a_leaveTo, .int v_size, .int v_rows])), (a_weekly, .inl (cZ, 40, .inl f_weekly)), (a_doubled, .inl (cZ, 40, .inl f_doubled)), (a_dueOn, .inl (cI, 40, .inl f_dueOn))]) (va_Qi (fun (r : Int32) (u : Int32 × (Nat → Int32) × (Nat → Int32) × (Nat → Int32)) => (v_size.toInt = 40 ∧ r.toInt = -1 ∧ u.1 = v_size) ∨ (v_size.toInt < 40 ∧ r.toInt = v_size.toInt ∧ u.1.toInt = v_size.toInt + 1)) (BW D [(h, .inr (4, [.ref a_weekly, .ref a_doubled, .ref a_dueOn, .ref a_owed, .ref a_said, .ref a_spared, .ref a_leaveOf, .ref a_leaveFrom, .ref a_leaveTo, .int v_size, .int v_rows])), (a_weekly, .inl (cZ, 40, .inl f_weekly)), (a_doubled, .inl (cZ, 40, .inl f_doubled)), (a_dueOn, .inl (cI, 40, .inl f_dueOn))] sz (fun u : Int32 × (Nat → Int32) × (Nat → Int32) × (Nat → Int32) => [(h, .inr (4, [.ref a_weekly, .ref a_doubled, .ref a_dueOn, .ref a_owed, .ref a_said, .ref a_spared, .ref a_leaveOf, .ref a_leaveFrom, .ref a_leaveTo, .int u.1, .int v_rows])), (a_weekly, .inl (cZ, 40, .inl u.2.1)), (a_doubled, .inl (cZ, 40, .inl u.2.2.2)), (a_dueOn, .inl (cI, 40, .inl u.2.2.1))])) (va_A [(h, .inr (4, [.ref a_weekly, .ref a_doubled, .ref a_dueOn, .ref a_owed, .ref a_said, .ref a_spared, .ref a_leaveOf, .ref a_leaveFrom, .ref a_leaveTo, .int v_size, .int v_rows])), (a_weekly, .inl (cZ, 40, .inl f_weekly)), (a_doubled, .inl (cZ, 40, .inl f_doubled)), (a_dueOn, .inl (cI, 40, .inl f_dueOn))] sz)) 0 0 (va_A [(h, .inr (4, [.ref a_weekly, .ref a_doubled, .ref a_dueOn, .ref a_owed, .ref a_said, .ref a_spared, .ref a_leaveOf, .ref a_leaveFrom, .ref a_leaveTo, .int v_size, .int v_rows])), (a_weekly, .inl (cZ, 40, .inl f_weekly)), (a_doubled, .inl (cZ, 40, .inl f_doubled)), (a_dueOn, .inl (cI, 40, .inl f_dueOn))] sz) := by
  refine rw_ret (cc := cX4_enter) (maxL := 4) (ty := .int) (own := RX4) (by decide) rfl rfl (Nat.le_of_ble_eq_true rfl) ?_
  intro p e s m args below meth c Q A S hin hret hP hK hD hA hS ls hl
  obtain ⟨hx, hb, hml, hown, hts⟩ := id S
  have hl : lv_has ls 4 [(0, .ref h), (1, .int px), (2, .int q), (3, .int t)] := hl
  have kkm1 : (-1 : Int32).toInt = -1 := by decide
  have kk0 : (0 : Int32).toInt = 0 := by decide
  have kk1 : (1 : Int32).toInt = 1 := by decide
  have kk40 : (40 : Int32).toInt = 40 := by decide
  have lk0 := hts (.fieldLink RX4 40 "AbbeyHours$Gifts" "size" "I") (List.mem_cons_of_mem _ (List.mem_append_left _ (List.mem_of_getElem? (i := 0) rfl)))
  have lk1 := hts (.fieldLink RX4 11 "AbbeyHours$Gifts" "weekly" "[Z") (List.mem_cons_of_mem _ (List.mem_append_left _ (List.mem_of_getElem? (i := 1) rfl)))
  have lk2 := hts (.fieldLink RX4 18 "AbbeyHours$Gifts" "dueOn" "[I") (List.mem_cons_of_mem _ (List.mem_append_left _ (List.mem_of_getElem? (i := 2) rfl)))
  have lk3 := hts (.fieldLink RX4 15 "AbbeyHours$Gifts" "doubled" "[Z") (List.mem_cons_of_mem _ (List.mem_append_left _ (List.mem_of_getElem? (i := 3) rfl)))
  refine lv_aload_n hx hb dX4_enter_0 rfl (lv_at hl 0 rfl) ?_
  refine va_get (D := D) (ci := 4) (v := .int v_size) (C := RX4) (T := TX4) (N := 11) hx hb hts in_g_enter_X4 hown hK.1 hP 0 rfl rfl 9 (by decide) lk0 (fun _ h9 => h9) rfl dX4_enter_1 ?_
  refine lv_bipush (v := 40) hx hb dX4_enter_4 (by decide) ?_
  refine lv_icmp_lt (tgt := 11) hx hb dX4_enter_6 (by decide) (fun c_1 => ?_) (fun c_1 => ?_)
  · have tc_1 := t_lt c_1
    refine lv_aload_n hx hb dX4_enter_11 rfl (lv_at hl 0 rfl) ?_
    refine va_get (D := D) (ci := 4) (v := .ref a_weekly) (C := RX4) (T := TX4) (N := 11) hx hb hts in_g_enter_X4 hown hK.1 hP 0 rfl rfl 0 (by decide) lk1 (fun _ h9 => h9) rfl dX4_enter_12 ?_
    refine lv_aload_n hx hb dX4_enter_15 rfl (lv_at hl 0 rfl) ?_
    refine va_get (D := D) (ci := 4) (v := .int v_size) (C := RX4) (T := TX4) (N := 11) hx hb hts in_g_enter_X4 hown hK.1 hP 0 rfl rfl 9 (by decide) lk0 (fun _ h9 => h9) rfl dX4_enter_16 ?_
    refine lv_iload_n hx hb dX4_enter_19 rfl (lv_at hl 1 rfl) ?_
    refine va_zast hx hb hK.1 hP hD hS 1 1 rfl rfl (t_in (by omega) (by omega)) dX4_enter_20 (fun H locs hP hD hS => ?_)
    obtain ⟨g_2, eg_2⟩ : ∃ z : Nat → Int32, z = upd f_weekly ((v_size : Int32).toNatClampNeg) (vp_nar .boolean px) := ⟨_, rfl⟩
    rw [← eg_2] at hP hD
    have hP : va_P D vwCl [(h, .inr (4, [.ref a_weekly, .ref a_doubled, .ref a_dueOn, .ref a_owed, .ref a_said, .ref a_spared, .ref a_leaveOf, .ref a_leaveFrom, .ref a_leaveTo, .int v_size, .int v_rows])), (a_weekly, .inl (cZ, 40, .inl g_2)), (a_doubled, .inl (cZ, 40, .inl f_doubled)), (a_dueOn, .inl (cI, 40, .inl f_dueOn))] H := hP
    have hD := asD hP hD
    refine lv_aload_n hx hb dX4_enter_21 rfl (lv_at hl 0 rfl) ?_
    refine va_get (D := D) (ci := 4) (v := .ref a_dueOn) (C := RX4) (T := TX4) (N := 11) hx hb hts in_g_enter_X4 hown hK.1 hP 0 rfl rfl 2 (by decide) lk2 (fun _ h9 => h9) rfl dX4_enter_22 ?_
    refine lv_aload_n hx hb dX4_enter_25 rfl (lv_at hl 0 rfl) ?_
    refine va_get (D := D) (ci := 4) (v := .int v_size) (C := RX4) (T := TX4) (N := 11) hx hb hts in_g_enter_X4 hown hK.1 hP 0 rfl rfl 9 (by decide) lk0 (fun _ h9 => h9) rfl dX4_enter_26 ?_
    refine lv_iload_n hx hb dX4_enter_29 rfl (lv_at hl 2 rfl) ?_
    refine va_iast hx hb hK.1 hP hD hS 3 0 rfl rfl (t_in (by omega) (by omega)) dX4_enter_30 (fun H locs hP hD hS => ?_)
    obtain ⟨g_3, eg_3⟩ : ∃ z : Nat → Int32, z = upd f_dueOn ((v_size : Int32).toNatClampNeg) q := ⟨_, rfl⟩
    rw [← eg_3] at hP hD
    have hP : va_P D vwCl [(h, .inr (4, [.ref a_weekly, .ref a_doubled, .ref a_dueOn, .ref a_owed, .ref a_said, .ref a_spared, .ref a_leaveOf, .ref a_leaveFrom, .ref a_leaveTo, .int v_size, .int v_rows])), (a_weekly, .inl (cZ, 40, .inl g_2)), (a_doubled, .inl (cZ, 40, .inl f_doubled)), (a_dueOn, .inl (cI, 40, .inl g_3))] H := hP
    have hD := asD hP hD
    refine lv_aload_n hx hb dX4_enter_31 rfl (lv_at hl 0 rfl) ?_
    refine va_get (D := D) (ci := 4) (v := .ref a_doubled) (C := RX4) (T := TX4) (N := 11) hx hb hts in_g_enter_X4 hown hK.1 hP 0 rfl rfl 1 (by decide) lk3 (fun _ h9 => h9) rfl dX4_enter_32 ?_
    refine lv_aload_n hx hb dX4_enter_35 rfl (lv_at hl 0 rfl) ?_
    refine va_get (D := D) (ci := 4) (v := .int v_size) (C := RX4) (T := TX4) (N := 11) hx hb hts in_g_enter_X4 hown hK.1 hP 0 rfl rfl 9 (by decide) lk0 (fun _ h9 => h9) rfl dX4_enter_36 ?_
    refine lv_iload_n hx hb dX4_enter_39 rfl (lv_at hl 3 rfl) ?_
    refine va_zast hx hb hK.1 hP hD hS 2 1 rfl rfl (t_in (by omega) (by omega)) dX4_enter_40 (fun H locs hP hD hS => ?_)
    obtain ⟨g_4, eg_4⟩ : ∃ z : Nat → Int32, z = upd f_doubled ((v_size : Int32).toNatClampNeg) (vp_nar .boolean t) := ⟨_, rfl⟩
    rw [← eg_4] at hP hD
    have hP : va_P D vwCl [(h, .inr (4, [.ref a_weekly, .ref a_doubled, .ref a_dueOn, .ref a_owed, .ref a_said, .ref a_spared, .ref a_leaveOf, .ref a_leaveFrom, .ref a_leaveTo, .int v_size, .int v_rows])), (a_weekly, .inl (cZ, 40, .inl g_2)), (a_doubled, .inl (cZ, 40, .inl g_4)), (a_dueOn, .inl (cI, 40, .inl g_3))] H := hP
    have hD := asD hP hD
    refine lv_aload_n hx hb dX4_enter_41 rfl (lv_at hl 0 rfl) ?_
    refine lv_dup hx hb dX4_enter_42 rfl ?_
    refine va_get (D := D) (ci := 4) (v := .int v_size) (C := RX4) (T := TX4) (N := 11) hx hb hts in_g_enter_X4 hown hK.1 hP 0 rfl rfl 9 (by decide) lk0 (fun _ h9 => h9) rfl dX4_enter_43 ?_
    refine lv_iconst (v := 1) hx hb dX4_enter_46 (by decide) ?_
    refine lv_iadd hx hb dX4_enter_47 ?_
    refine lv_topi (fun x_5 ex_5 => ?_)
    first | have tx_5 := t_add ex_5 (by omega) (by omega) | skip
    refine va_put (D := D) (ci := 4) (v := .int x_5) (ty := .int) (C := RX4) (T := TX4) (N := 11) hx hb hts in_g_enter_X4 tyX4 tyX4_ok nmX4 hown hK.1 hP hD hS 0 rfl rfl 9 (by decide) lk0 (fun _ h9 => h9) rfl (by decide +kernel) rfl rfl (Nat.le_of_ble_eq_true rfl) dX4_enter_48 (fun H locs hP hD hS => ?_)
    have hP : va_P D vwCl [(h, .inr (4, [.ref a_weekly, .ref a_doubled, .ref a_dueOn, .ref a_owed, .ref a_said, .ref a_spared, .ref a_leaveOf, .ref a_leaveFrom, .ref a_leaveTo, .int x_5, .int v_rows])), (a_weekly, .inl (cZ, 40, .inl g_2)), (a_doubled, .inl (cZ, 40, .inl g_4)), (a_dueOn, .inl (cI, 40, .inl g_3))] H := hP
    have hD := asD hP hD
    refine lv_aload_n hx hb dX4_enter_51 rfl (lv_at hl 0 rfl) ?_
    refine va_get (D := D) (ci := 4) (v := .int x_5) (C := RX4) (T := TX4) (N := 11) hx hb hts in_g_enter_X4 hown hK.1 hP 0 rfl rfl 9 (by decide) lk0 (fun _ h9 => h9) rfl dX4_enter_52 ?_
    refine lv_iconst (v := 1) hx hb dX4_enter_55 (by decide) ?_
    refine lv_isub hx hb dX4_enter_56 ?_
    refine lv_topi (fun x_6 ex_6 => ?_)
    first | have tx_6 := t_sub ex_6 (by omega) (by omega) | skip
    exact hret x_6 (x_5, g_2, g_3, g_4) _ _ _ _ (show (v_size.toInt = 40 ∧ x_6.toInt = -1 ∧ x_5 = v_size) ∨ (v_size.toInt < 40 ∧ x_6.toInt = v_size.toInt ∧ x_5.toInt = v_size.toInt + 1) from by first | exact Or.inl ⟨by omega, by omega, rfl⟩ | exact Or.inr ⟨by omega, by omega, by omega⟩) rfl (hP.sub [0, 1, 2, 3] rfl) (hD.sub [0, 1, 2, 3] (by decide +kernel) rfl) hS dX4_enter_57
  · have tc_1 := t_nlt c_1
    refine lv_iconst (v := (-1)) hx hb dX4_enter_9 (by decide) ?_
    exact hret (-1) (v_size, f_weekly, f_dueOn, f_doubled) _ _ _ _ (show (v_size.toInt = 40 ∧ (-1 : Int32).toInt = -1 ∧ v_size = v_size) ∨ (v_size.toInt < 40 ∧ (-1 : Int32).toInt = v_size.toInt ∧ v_size.toInt = v_size.toInt + 1) from by first | exact Or.inl ⟨by omega, by omega, rfl⟩ | exact Or.inr ⟨by omega, by omega, by omega⟩) rfl (hP.sub [0, 1, 2, 3] rfl) (hD.sub [0, 1, 2, 3] (by decide +kernel) rfl) hS dX4_enter_10

theorem in_g_spare_X4 : ∀ w ∈ wsX40, w ∈ wsX4_spare := tl_X4_spare_X4
set_option maxHeartbeats 8000000 in
set_option maxRecDepth 100000 in
theorem g_spare {l : Launch} {D : va_G} {cI cZ cB : ClassId} {sz : Nat} {h a_weekly a_doubled a_dueOn a_owed a_said a_spared a_leaveOf a_leaveFrom a_leaveTo : Nat} {v_size v_rows : Int32} {f_leaveOf f_leaveFrom f_leaveTo : Nat → Int32} {px q t : Int32} (hv_rows0 : 0 ≤ v_rows.toInt) (hv_rows1 : v_rows.toInt ≤ 40) : Met l yX4_spare wsX4_spare ({ frames := 0, cells := 0, slots := 0, locals := 0 }) (RW D cI cZ cB [.ref h, .int px, .int q, .int t] sz [(h, .inr (4, [.ref a_weekly, .ref a_doubled, .ref a_dueOn, .ref a_owed, .ref a_said, .ref a_spared, .ref a_leaveOf, .ref a_leaveFrom, .ref a_leaveTo, .int v_size, .int v_rows])), (a_leaveOf, .inl (cI, 40, .inl f_leaveOf)), (a_leaveFrom, .inl (cI, 40, .inl f_leaveFrom)), (a_leaveTo, .inl (cI, 40, .inl f_leaveTo))]) (va_Qi (fun (r : Int32) (u : Int32 × (Nat → Int32) × (Nat → Int32) × (Nat → Int32)) => (v_rows.toInt = 40 ∧ r.toInt = -1 ∧ u.1 = v_rows) ∨ (v_rows.toInt < 40 ∧ r.toInt = v_rows.toInt + 1 ∧ u.1.toInt = v_rows.toInt + 1)) (BW D [(h, .inr (4, [.ref a_weekly, .ref a_doubled, .ref a_dueOn, .ref a_owed, .ref a_said, .ref a_spared, .ref a_leaveOf, .ref a_leaveFrom, .ref a_leaveTo, .int v_size, .int v_rows])), (a_leaveOf, .inl (cI, 40, .inl f_leaveOf)), (a_leaveFrom, .inl (cI, 40, .inl f_leaveFrom)), (a_leaveTo, .inl (cI, 40, .inl f_leaveTo))] sz (fun u : Int32 × (Nat → Int32) × (Nat → Int32) × (Nat → Int32) => [(h, .inr (4, [.ref a_weekly, .ref a_doubled, .ref a_dueOn, .ref a_owed, .ref a_said, .ref a_spared, .ref a_leaveOf, .ref a_leaveFrom, .ref a_leaveTo, .int v_size, .int u.1])), (a_leaveOf, .inl (cI, 40, .inl u.2.1)), (a_leaveFrom, .inl (cI, 40, .inl u.2.2.1)), (a_leaveTo, .inl (cI, 40, .inl u.2.2.2))])) (va_A [(h, .inr (4, [.ref a_weekly, .ref a_doubled, .ref a_dueOn, .ref a_owed, .ref a_said, .ref a_spared, .ref a_leaveOf, .ref a_leaveFrom, .ref a_leaveTo, .int v_size, .int v_rows])), (a_leaveOf, .inl (cI, 40, .inl f_leaveOf)), (a_leaveFrom, .inl (cI, 40, .inl f_leaveFrom)), (a_leaveTo, .inl (cI, 40, .inl f_leaveTo))] sz)) 0 0 (va_A [(h, .inr (4, [.ref a_weekly, .ref a_doubled, .ref a_dueOn, .ref a_owed, .ref a_said, .ref a_spared, .ref a_leaveOf, .ref a_leaveFrom, .ref a_leaveTo, .int v_size, .int v_rows])), (a_leaveOf, .inl (cI, 40, .inl f_leaveOf)), (a_leaveFrom, .inl (cI, 40, .inl f_leaveFrom)), (a_leaveTo, .inl (cI, 40, .inl f_leaveTo))] sz) := by
  refine rw_ret (cc := cX4_spare) (maxL := 4) (ty := .int) (own := RX4) (by decide) rfl rfl (Nat.le_of_ble_eq_true rfl) ?_
  intro p e s m args below meth c Q A S hin hret hP hK hD hA hS ls hl
  obtain ⟨hx, hb, hml, hown, hts⟩ := id S
  have hl : lv_has ls 4 [(0, .ref h), (1, .int px), (2, .int q), (3, .int t)] := hl
  have kkm1 : (-1 : Int32).toInt = -1 := by decide
  have kk0 : (0 : Int32).toInt = 0 := by decide
  have kk1 : (1 : Int32).toInt = 1 := by decide
  have kk40 : (40 : Int32).toInt = 40 := by decide
  have lk0 := hts (.fieldLink RX4 44 "AbbeyHours$Gifts" "rows" "I") (List.mem_cons_of_mem _ (List.mem_append_left _ (List.mem_of_getElem? (i := 0) rfl)))
  have lk1 := hts (.fieldLink RX4 31 "AbbeyHours$Gifts" "leaveOf" "[I") (List.mem_cons_of_mem _ (List.mem_append_left _ (List.mem_of_getElem? (i := 1) rfl)))
  have lk2 := hts (.fieldLink RX4 34 "AbbeyHours$Gifts" "leaveFrom" "[I") (List.mem_cons_of_mem _ (List.mem_append_left _ (List.mem_of_getElem? (i := 2) rfl)))
  have lk3 := hts (.fieldLink RX4 37 "AbbeyHours$Gifts" "leaveTo" "[I") (List.mem_cons_of_mem _ (List.mem_append_left _ (List.mem_of_getElem? (i := 3) rfl)))
  refine lv_aload_n hx hb dX4_spare_0 rfl (lv_at hl 0 rfl) ?_
  refine va_get (D := D) (ci := 4) (v := .int v_rows) (C := RX4) (T := TX4) (N := 11) hx hb hts in_g_spare_X4 hown hK.1 hP 0 rfl rfl 10 (by decide) lk0 (fun _ h9 => h9) rfl dX4_spare_1 ?_
  refine lv_bipush (v := 40) hx hb dX4_spare_4 (by decide) ?_
  refine lv_icmp_lt (tgt := 11) hx hb dX4_spare_6 (by decide) (fun c_1 => ?_) (fun c_1 => ?_)
  · have tc_1 := t_lt c_1
    refine lv_aload_n hx hb dX4_spare_11 rfl (lv_at hl 0 rfl) ?_
    refine va_get (D := D) (ci := 4) (v := .ref a_leaveOf) (C := RX4) (T := TX4) (N := 11) hx hb hts in_g_spare_X4 hown hK.1 hP 0 rfl rfl 6 (by decide) lk1 (fun _ h9 => h9) rfl dX4_spare_12 ?_
    refine lv_aload_n hx hb dX4_spare_15 rfl (lv_at hl 0 rfl) ?_
    refine va_get (D := D) (ci := 4) (v := .int v_rows) (C := RX4) (T := TX4) (N := 11) hx hb hts in_g_spare_X4 hown hK.1 hP 0 rfl rfl 10 (by decide) lk0 (fun _ h9 => h9) rfl dX4_spare_16 ?_
    refine lv_iload_n hx hb dX4_spare_19 rfl (lv_at hl 1 rfl) ?_
    refine va_iast hx hb hK.1 hP hD hS 1 0 rfl rfl (t_in (by omega) (by omega)) dX4_spare_20 (fun H locs hP hD hS => ?_)
    obtain ⟨g_2, eg_2⟩ : ∃ z : Nat → Int32, z = upd f_leaveOf ((v_rows : Int32).toNatClampNeg) px := ⟨_, rfl⟩
    rw [← eg_2] at hP hD
    have hP : va_P D vwCl [(h, .inr (4, [.ref a_weekly, .ref a_doubled, .ref a_dueOn, .ref a_owed, .ref a_said, .ref a_spared, .ref a_leaveOf, .ref a_leaveFrom, .ref a_leaveTo, .int v_size, .int v_rows])), (a_leaveOf, .inl (cI, 40, .inl g_2)), (a_leaveFrom, .inl (cI, 40, .inl f_leaveFrom)), (a_leaveTo, .inl (cI, 40, .inl f_leaveTo))] H := hP
    have hD := asD hP hD
    refine lv_aload_n hx hb dX4_spare_21 rfl (lv_at hl 0 rfl) ?_
    refine va_get (D := D) (ci := 4) (v := .ref a_leaveFrom) (C := RX4) (T := TX4) (N := 11) hx hb hts in_g_spare_X4 hown hK.1 hP 0 rfl rfl 7 (by decide) lk2 (fun _ h9 => h9) rfl dX4_spare_22 ?_
    refine lv_aload_n hx hb dX4_spare_25 rfl (lv_at hl 0 rfl) ?_
    refine va_get (D := D) (ci := 4) (v := .int v_rows) (C := RX4) (T := TX4) (N := 11) hx hb hts in_g_spare_X4 hown hK.1 hP 0 rfl rfl 10 (by decide) lk0 (fun _ h9 => h9) rfl dX4_spare_26 ?_
    refine lv_iload_n hx hb dX4_spare_29 rfl (lv_at hl 2 rfl) ?_
    refine va_iast hx hb hK.1 hP hD hS 2 0 rfl rfl (t_in (by omega) (by omega)) dX4_spare_30 (fun H locs hP hD hS => ?_)
    obtain ⟨g_3, eg_3⟩ : ∃ z : Nat → Int32, z = upd f_leaveFrom ((v_rows : Int32).toNatClampNeg) q := ⟨_, rfl⟩
    rw [← eg_3] at hP hD
    have hP : va_P D vwCl [(h, .inr (4, [.ref a_weekly, .ref a_doubled, .ref a_dueOn, .ref a_owed, .ref a_said, .ref a_spared, .ref a_leaveOf, .ref a_leaveFrom, .ref a_leaveTo, .int v_size, .int v_rows])), (a_leaveOf, .inl (cI, 40, .inl g_2)), (a_leaveFrom, .inl (cI, 40, .inl g_3)), (a_leaveTo, .inl (cI, 40, .inl f_leaveTo))] H := hP
    have hD := asD hP hD
    refine lv_aload_n hx hb dX4_spare_31 rfl (lv_at hl 0 rfl) ?_
    refine va_get (D := D) (ci := 4) (v := .ref a_leaveTo) (C := RX4) (T := TX4) (N := 11) hx hb hts in_g_spare_X4 hown hK.1 hP 0 rfl rfl 8 (by decide) lk3 (fun _ h9 => h9) rfl dX4_spare_32 ?_
    refine lv_aload_n hx hb dX4_spare_35 rfl (lv_at hl 0 rfl) ?_
    refine va_get (D := D) (ci := 4) (v := .int v_rows) (C := RX4) (T := TX4) (N := 11) hx hb hts in_g_spare_X4 hown hK.1 hP 0 rfl rfl 10 (by decide) lk0 (fun _ h9 => h9) rfl dX4_spare_36 ?_
    refine lv_iload_n hx hb dX4_spare_39 rfl (lv_at hl 3 rfl) ?_
    refine va_iast hx hb hK.1 hP hD hS 3 0 rfl rfl (t_in (by omega) (by omega)) dX4_spare_40 (fun H locs hP hD hS => ?_)
    obtain ⟨g_4, eg_4⟩ : ∃ z : Nat → Int32, z = upd f_leaveTo ((v_rows : Int32).toNatClampNeg) t := ⟨_, rfl⟩
    rw [← eg_4] at hP hD
    have hP : va_P D vwCl [(h, .inr (4, [.ref a_weekly, .ref a_doubled, .ref a_dueOn, .ref a_owed, .ref a_said, .ref a_spared, .ref a_leaveOf, .ref a_leaveFrom, .ref a_leaveTo, .int v_size, .int v_rows])), (a_leaveOf, .inl (cI, 40, .inl g_2)), (a_leaveFrom, .inl (cI, 40, .inl g_3)), (a_leaveTo, .inl (cI, 40, .inl g_4))] H := hP
    have hD := asD hP hD
    refine lv_aload_n hx hb dX4_spare_41 rfl (lv_at hl 0 rfl) ?_
    refine lv_dup hx hb dX4_spare_42 rfl ?_
    refine va_get (D := D) (ci := 4) (v := .int v_rows) (C := RX4) (T := TX4) (N := 11) hx hb hts in_g_spare_X4 hown hK.1 hP 0 rfl rfl 10 (by decide) lk0 (fun _ h9 => h9) rfl dX4_spare_43 ?_
    refine lv_iconst (v := 1) hx hb dX4_spare_46 (by decide) ?_
    refine lv_iadd hx hb dX4_spare_47 ?_
    refine lv_topi (fun x_5 ex_5 => ?_)
    first | have tx_5 := t_add ex_5 (by omega) (by omega) | skip
    refine va_put (D := D) (ci := 4) (v := .int x_5) (ty := .int) (C := RX4) (T := TX4) (N := 11) hx hb hts in_g_spare_X4 tyX4 tyX4_ok nmX4 hown hK.1 hP hD hS 0 rfl rfl 10 (by decide) lk0 (fun _ h9 => h9) rfl (by decide +kernel) rfl rfl (Nat.le_of_ble_eq_true rfl) dX4_spare_48 (fun H locs hP hD hS => ?_)
    have hP : va_P D vwCl [(h, .inr (4, [.ref a_weekly, .ref a_doubled, .ref a_dueOn, .ref a_owed, .ref a_said, .ref a_spared, .ref a_leaveOf, .ref a_leaveFrom, .ref a_leaveTo, .int v_size, .int x_5])), (a_leaveOf, .inl (cI, 40, .inl g_2)), (a_leaveFrom, .inl (cI, 40, .inl g_3)), (a_leaveTo, .inl (cI, 40, .inl g_4))] H := hP
    have hD := asD hP hD
    refine lv_aload_n hx hb dX4_spare_51 rfl (lv_at hl 0 rfl) ?_
    refine va_get (D := D) (ci := 4) (v := .int x_5) (C := RX4) (T := TX4) (N := 11) hx hb hts in_g_spare_X4 hown hK.1 hP 0 rfl rfl 10 (by decide) lk0 (fun _ h9 => h9) rfl dX4_spare_52 ?_
    exact hret x_5 (x_5, g_2, g_3, g_4) _ _ _ _ (show (v_rows.toInt = 40 ∧ x_5.toInt = -1 ∧ x_5 = v_rows) ∨ (v_rows.toInt < 40 ∧ x_5.toInt = v_rows.toInt + 1 ∧ x_5.toInt = v_rows.toInt + 1) from by first | exact Or.inl ⟨by omega, by omega, rfl⟩ | exact Or.inr ⟨by omega, by omega, by omega⟩) rfl (hP.sub [0, 1, 2, 3] rfl) (hD.sub [0, 1, 2, 3] (by decide +kernel) rfl) hS dX4_spare_55
  · have tc_1 := t_nlt c_1
    refine lv_iconst (v := (-1)) hx hb dX4_spare_9 (by decide) ?_
    exact hret (-1) (v_rows, f_leaveOf, f_leaveFrom, f_leaveTo) _ _ _ _ (show (v_rows.toInt = 40 ∧ (-1 : Int32).toInt = -1 ∧ v_rows = v_rows) ∨ (v_rows.toInt < 40 ∧ (-1 : Int32).toInt = v_rows.toInt + 1 ∧ v_rows.toInt = v_rows.toInt + 1) from by first | exact Or.inl ⟨by omega, by omega, rfl⟩ | exact Or.inr ⟨by omega, by omega, by omega⟩) rfl (hP.sub [0, 1, 2, 3] rfl) (hD.sub [0, 1, 2, 3] (by decide +kernel) rfl) hS dX4_spare_10

theorem in_g_figure_X4 : ∀ w ∈ wsX40, w ∈ wsX4_figure := tl_X4_figure_X4
set_option maxHeartbeats 8000000 in
set_option maxRecDepth 100000 in
theorem g_figure {l : Launch} {D : va_G} {cI cZ cB : ClassId} {h a_weekly a_doubled a_dueOn a_owed a_said a_spared a_leaveOf a_leaveFrom a_leaveTo : Nat} {v_size v_rows : Int32} {f_owed f_said f_spared : Nat → Int32} {i w : Int32} (hv_size0 : 0 ≤ v_size.toInt) (hv_size1 : v_size.toInt ≤ 40) : Met l yX4_figure wsX4_figure ({ frames := 1, cells := 0, slots := 0, locals := 21 }) (RO D cI cZ cB [.ref h, .int i, .int w] [(h, .inr (4, [.ref a_weekly, .ref a_doubled, .ref a_dueOn, .ref a_owed, .ref a_said, .ref a_spared, .ref a_leaveOf, .ref a_leaveFrom, .ref a_leaveTo, .int v_size, .int v_rows])), (a_owed, .inl (cI, 40, .inl f_owed)), (a_said, .inl (cI, 40, .inl f_said)), (a_spared, .inl (cI, 40, .inl f_spared))]) (vp_Si (fun r : Int32 => v_size.toInt ≤ i.toInt ∨ i.toInt < 0 → r.toInt = -1)) 0 0 (fun _ => False) := by
  refine ro_ret (cc := cX4_figure) (maxL := 3) (ty := .int) (own := RX4) (by decide) rfl rfl (Nat.le_of_ble_eq_true rfl) ?_
  intro p e s m args below meth c Q S hret hP hK ls hl
  obtain ⟨hx, hb, hml, hown, hts⟩ := id S
  have hl : lv_has ls 3 [(0, .ref h), (1, .int i), (2, .int w)] := hl
  have kkm1 : (-1 : Int32).toInt = -1 := by decide
  have kk0 : (0 : Int32).toInt = 0 := by decide
  have lk0 := hts (.fieldLink RX4 22 "AbbeyHours$Gifts" "owed" "[I") (List.mem_cons_of_mem _ (List.mem_append_left _ (List.mem_of_getElem? (i := 0) rfl)))
  have lk1 := hts (.fieldLink RX4 25 "AbbeyHours$Gifts" "said" "[I") (List.mem_cons_of_mem _ (List.mem_append_left _ (List.mem_of_getElem? (i := 1) rfl)))
  have lk2 := hts (.fieldLink RX4 28 "AbbeyHours$Gifts" "spared" "[I") (List.mem_cons_of_mem _ (List.mem_append_left _ (List.mem_of_getElem? (i := 2) rfl)))
  refine lv_aload_n hx hb dX4_figure_0 rfl (lv_at hl 0 rfl) ?_
  refine lv_iload_n hx hb dX4_figure_1 rfl (lv_at hl 1 rfl) ?_
  have hPc := hP.sub (ws' := [(h, .inr (4, [.ref a_weekly, .ref a_doubled, .ref a_dueOn, .ref a_owed, .ref a_said, .ref a_spared, .ref a_leaveOf, .ref a_leaveFrom, .ref a_leaveTo, .int v_size, .int v_rows]))]) [0] rfl
  refine roV (As := [.int i]) (rest := []) S (g_has  ) (cwV 1 hts gX4_figure_X4_has rfl rfl rfl ⟨rfl, hd_X4_has⟩ ⟨Nat.le_of_ble_eq_true rfl, Nat.le_of_ble_eq_true rfl⟩) hK hPc (va_recv hK.1 hPc (ci := 4) (q0 := 0) rfl rfl) rfl hl.1 rfl (Nat.le_of_ble_eq_true rfl) dX4_figure_2 ⟨Nat.le_of_ble_eq_true rfl, Nat.le_of_ble_eq_true rfl⟩ (fun r_1 hw_1 => ?_)
  have hw_1 : (r_1.toInt = 1 ∧ 0 ≤ i.toInt ∧ i.toInt < v_size.toInt) ∨ (r_1.toInt = 0 ∧ (i.toInt < 0 ∨ v_size.toInt ≤ i.toInt)) := hw_1
  refine lv_if_ne (tgt := 10) hx hb dX4_figure_5 (by decide) (fun c_2 => ?_) (fun c_2 => ?_)
  · have tc_2 := t_neq c_2
    refine lv_iload_n hx hb dX4_figure_10 rfl (lv_at hl 2 rfl) ?_
    have kqh_3 : (0 : Int32).toInt = 0 := by decide
    by_cases h_3 : w = 0
    · have th_3 := t_eq h_3
      refine lv_tableIn (off := 25) (tgt := 36) hx hb dX4_figure_11 (by rw [h_3]; decide) (by rw [h_3]; decide) (by rw [h_3]; rfl) (by decide) ?_
      refine lv_aload_n hx hb dX4_figure_36 rfl (lv_at hl 0 rfl) ?_
      refine va_get (D := D) (ci := 4) (v := .ref a_owed) (C := RX4) (T := TX4) (N := 11) hx hb hts in_g_figure_X4 hown hK.1 hP 0 rfl rfl 3 (by decide) lk0 (fun _ h9 => h9) rfl dX4_figure_37 ?_
      refine lv_iload_n hx hb dX4_figure_40 rfl (lv_at hl 1 rfl) ?_
      refine va_iald hx hb hK.1 hP 1 0 rfl rfl (t_in (by omega) (by omega)) dX4_figure_41 ?_
      refine lv_topi (fun y_4 ey_4 => ?_)
      exact hret y_4 _ _ (show v_size.toInt ≤ i.toInt ∨ i.toInt < 0 → y_4.toInt = -1 from by omega) rfl dX4_figure_42
    have th_3 := t_neq h_3
    have kqh_5 : (1 : Int32).toInt = 1 := by decide
    by_cases h_5 : w = 1
    · have th_5 := t_eq h_5
      refine lv_tableIn (off := 32) (tgt := 43) hx hb dX4_figure_11 (by rw [h_5]; decide) (by rw [h_5]; decide) (by rw [h_5]; rfl) (by decide) ?_
      refine lv_aload_n hx hb dX4_figure_43 rfl (lv_at hl 0 rfl) ?_
      refine va_get (D := D) (ci := 4) (v := .ref a_said) (C := RX4) (T := TX4) (N := 11) hx hb hts in_g_figure_X4 hown hK.1 hP 0 rfl rfl 4 (by decide) lk1 (fun _ h9 => h9) rfl dX4_figure_44 ?_
      refine lv_iload_n hx hb dX4_figure_47 rfl (lv_at hl 1 rfl) ?_
      refine va_iald hx hb hK.1 hP 2 0 rfl rfl (t_in (by omega) (by omega)) dX4_figure_48 ?_
      refine lv_topi (fun y_6 ey_6 => ?_)
      exact hret y_6 _ _ (show v_size.toInt ≤ i.toInt ∨ i.toInt < 0 → y_6.toInt = -1 from by omega) rfl dX4_figure_49
    have th_5 := t_neq h_5
    have kqh_7 : (2 : Int32).toInt = 2 := by decide
    by_cases h_7 : w = 2
    · have th_7 := t_eq h_7
      refine lv_tableIn (off := 39) (tgt := 50) hx hb dX4_figure_11 (by rw [h_7]; decide) (by rw [h_7]; decide) (by rw [h_7]; rfl) (by decide) ?_
      refine lv_aload_n hx hb dX4_figure_50 rfl (lv_at hl 0 rfl) ?_
      refine va_get (D := D) (ci := 4) (v := .ref a_spared) (C := RX4) (T := TX4) (N := 11) hx hb hts in_g_figure_X4 hown hK.1 hP 0 rfl rfl 5 (by decide) lk2 (fun _ h9 => h9) rfl dX4_figure_51 ?_
      refine lv_iload_n hx hb dX4_figure_54 rfl (lv_at hl 1 rfl) ?_
      refine va_iald hx hb hK.1 hP 3 0 rfl rfl (t_in (by omega) (by omega)) dX4_figure_55 ?_
      refine lv_topi (fun y_8 ey_8 => ?_)
      exact hret y_8 _ _ (show v_size.toInt ≤ i.toInt ∨ i.toInt < 0 → y_8.toInt = -1 from by omega) rfl dX4_figure_56
    have th_7 := t_neq h_7
    refine lv_tableOut (tgt := 57) hx hb dX4_figure_11 (by omega) (by decide) ?_
    refine lv_iconst (v := (-1)) hx hb dX4_figure_57 (by decide) ?_
    exact hret (-1) _ _ (show v_size.toInt ≤ i.toInt ∨ i.toInt < 0 → (-1 : Int32).toInt = -1 from by omega) rfl dX4_figure_58
  · have tc_2 := t_eq c_2
    refine lv_iconst (v := (-1)) hx hb dX4_figure_8 (by decide) ?_
    exact hret (-1) _ _ (show v_size.toInt ≤ i.toInt ∨ i.toInt < 0 → (-1 : Int32).toInt = -1 from by omega) rfl dX4_figure_9

theorem in_g_isDue_X4 : ∀ w ∈ wsX40, w ∈ wsX4_isDue := tl_X4_isDue_X4
set_option maxHeartbeats 8000000 in
set_option maxRecDepth 100000 in
theorem g_isDue {l : Launch} {D : va_G} {cI cZ cB : ClassId} {h a_weekly a_doubled a_dueOn a_owed a_said a_spared a_leaveOf a_leaveFrom a_leaveTo : Nat} {v_size v_rows : Int32} {f_weekly f_dueOn : Nat → Int32} {i d : Int32} (hi0 : 0 ≤ i.toInt) (hi1 : i.toInt < 40) : Met l yX4_isDue wsX4_isDue ({ frames := 0, cells := 0, slots := 0, locals := 0 }) (RO D cI cZ cB [.ref h, .int i, .int d] [(h, .inr (4, [.ref a_weekly, .ref a_doubled, .ref a_dueOn, .ref a_owed, .ref a_said, .ref a_spared, .ref a_leaveOf, .ref a_leaveFrom, .ref a_leaveTo, .int v_size, .int v_rows])), (a_weekly, .inl (cZ, 40, .inl f_weekly)), (a_dueOn, .inl (cI, 40, .inl f_dueOn))]) (vp_Si (fun r : Int32 => (r.toInt = 0 ∨ r.toInt = 1))) 0 0 (fun _ => False) := by
  refine ro_ret (cc := cX4_isDue) (maxL := 3) (ty := .boolean) (own := RX4) (by decide) rfl rfl (Nat.le_of_ble_eq_true rfl) ?_
  intro p e s m args below meth c Q S hret hP hK ls hl
  obtain ⟨hx, hb, hml, hown, hts⟩ := id S
  have hl : lv_has ls 3 [(0, .ref h), (1, .int i), (2, .int d)] := hl
  have kk0 : (0 : Int32).toInt = 0 := by decide
  have kk1 : (1 : Int32).toInt = 1 := by decide
  have kk7 : (7 : Int32).toInt = 7 := by decide
  have kk365 : (365 : Int32).toInt = 365 := by decide
  have lk0 := hts (.fieldLink RX4 18 "AbbeyHours$Gifts" "dueOn" "[I") (List.mem_cons_of_mem _ (List.mem_append_left _ (List.mem_of_getElem? (i := 0) rfl)))
  have lk1 := hts (.fieldLink RX4 11 "AbbeyHours$Gifts" "weekly" "[Z") (List.mem_cons_of_mem _ (List.mem_append_left _ (List.mem_of_getElem? (i := 1) rfl)))
  refine lv_aload_n hx hb dX4_isDue_0 rfl (lv_at hl 0 rfl) ?_
  refine va_get (D := D) (ci := 4) (v := .ref a_dueOn) (C := RX4) (T := TX4) (N := 11) hx hb hts in_g_isDue_X4 hown hK.1 hP 0 rfl rfl 2 (by decide) lk0 (fun _ h9 => h9) rfl dX4_isDue_1 ?_
  refine lv_iload_n hx hb dX4_isDue_4 rfl (lv_at hl 1 rfl) ?_
  refine va_iald hx hb hK.1 hP 2 0 rfl rfl (t_in (by omega) (by omega)) dX4_isDue_5 ?_
  refine lv_topi (fun y_1 ey_1 => ?_)
  refine lv_aload_n hx hb dX4_isDue_6 rfl (lv_at hl 0 rfl) ?_
  refine va_get (D := D) (ci := 4) (v := .ref a_weekly) (C := RX4) (T := TX4) (N := 11) hx hb hts in_g_isDue_X4 hown hK.1 hP 0 rfl rfl 0 (by decide) lk1 (fun _ h9 => h9) rfl dX4_isDue_7 ?_
  refine lv_iload_n hx hb dX4_isDue_10 rfl (lv_at hl 1 rfl) ?_
  refine va_zald hx hb hK.1 hP 1 1 rfl rfl (t_in (by omega) (by omega)) dX4_isDue_11 ?_
  refine lv_topi (fun y_2 ey_2 => ?_)
  refine lv_if_eq (tgt := 22) hx hb dX4_isDue_12 (by decide) (fun c_3 => ?_) (fun c_3 => ?_)
  · have tc_3 := t_eq c_3
    refine lv_iload_n hx hb dX4_isDue_22 rfl (lv_at hl 2 rfl) ?_
    refine lv_sipush (v := 365) hx hb dX4_isDue_23 (by decide) ?_
    refine lv_irem hx hb dX4_isDue_26 (by decide) ?_
    refine lv_topi (fun x_4 ex_4 => ?_)
    refine lv_icmp_ne (tgt := 34) hx hb dX4_isDue_27 (by decide) (fun c_5 => ?_) (fun c_5 => ?_)
    · have tc_5 := t_neq c_5
      refine lv_iconst (v := 0) hx hb dX4_isDue_34 (by decide) ?_
      exact hret 0 _ _ (show ((0 : Int32).toInt = 0 ∨ (0 : Int32).toInt = 1) from by omega) rfl dX4_isDue_35
    · have tc_5 := t_eq c_5
      refine lv_iconst (v := 1) hx hb dX4_isDue_30 (by decide) ?_
      refine lv_goto (tgt := 35) hx hb dX4_isDue_31 (by decide) ?_
      exact hret 1 _ _ (show ((1 : Int32).toInt = 0 ∨ (1 : Int32).toInt = 1) from by omega) rfl dX4_isDue_35
  · have tc_3 := t_neq c_3
    refine lv_iload_n hx hb dX4_isDue_15 rfl (lv_at hl 2 rfl) ?_
    refine lv_bipush (v := 7) hx hb dX4_isDue_16 (by decide) ?_
    refine lv_irem hx hb dX4_isDue_18 (by decide) ?_
    refine lv_topi (fun x_6 ex_6 => ?_)
    refine lv_goto (tgt := 27) hx hb dX4_isDue_19 (by decide) ?_
    refine lv_icmp_ne (tgt := 34) hx hb dX4_isDue_27 (by decide) (fun c_7 => ?_) (fun c_7 => ?_)
    · have tc_7 := t_neq c_7
      refine lv_iconst (v := 0) hx hb dX4_isDue_34 (by decide) ?_
      exact hret 0 _ _ (show ((0 : Int32).toInt = 0 ∨ (0 : Int32).toInt = 1) from by omega) rfl dX4_isDue_35
    · have tc_7 := t_eq c_7
      refine lv_iconst (v := 1) hx hb dX4_isDue_30 (by decide) ?_
      refine lv_goto (tgt := 35) hx hb dX4_isDue_31 (by decide) ?_
      exact hret 1 _ _ (show ((1 : Int32).toInt = 0 ∨ (1 : Int32).toInt = 1) from by omega) rfl dX4_isDue_35

theorem in_g_hasLeave_X4 : ∀ w ∈ wsX40, w ∈ wsX4_hasLeave := tl_X4_hasLeave_X4
set_option maxHeartbeats 8000000 in
set_option maxRecDepth 100000 in
theorem g_hasLeave {l : Launch} {D : va_G} {cI cZ cB : ClassId} {h a_weekly a_doubled a_dueOn a_owed a_said a_spared a_leaveOf a_leaveFrom a_leaveTo : Nat} {v_size v_rows : Int32} {f_leaveOf f_leaveFrom f_leaveTo : Nat → Int32} {i d : Int32} (hv_rows0 : 0 ≤ v_rows.toInt) (hv_rows1 : v_rows.toInt ≤ 40) : Met l yX4_hasLeave wsX4_hasLeave ({ frames := 1, cells := 0, slots := 0, locals := 22 }) (RO D cI cZ cB [.ref h, .int i, .int d] [(h, .inr (4, [.ref a_weekly, .ref a_doubled, .ref a_dueOn, .ref a_owed, .ref a_said, .ref a_spared, .ref a_leaveOf, .ref a_leaveFrom, .ref a_leaveTo, .int v_size, .int v_rows])), (a_leaveOf, .inl (cI, 40, .inl f_leaveOf)), (a_leaveFrom, .inl (cI, 40, .inl f_leaveFrom)), (a_leaveTo, .inl (cI, 40, .inl f_leaveTo))]) (vp_Si (fun r : Int32 => (r.toInt = 0 ∨ r.toInt = 1))) 0 0 (fun _ => False) := by
  refine ro_ret (cc := cX4_hasLeave) (maxL := 4) (ty := .boolean) (own := RX4) (by decide) rfl rfl (Nat.le_of_ble_eq_true rfl) ?_
  intro p e s m args below meth c Q S hret hP hK ls hl
  obtain ⟨hx, hb, hml, hown, hts⟩ := id S
  have hl : lv_has ls 4 [(0, .ref h), (1, .int i), (2, .int d)] := hl
  have kk0 : (0 : Int32).toInt = 0 := by decide
  have kk1 : (1 : Int32).toInt = 1 := by decide
  have lk0 := hts (.fieldLink RX4 44 "AbbeyHours$Gifts" "rows" "I") (List.mem_cons_of_mem _ (List.mem_append_left _ (List.mem_of_getElem? (i := 0) rfl)))
  have lk1 := hts (.fieldLink RX4 31 "AbbeyHours$Gifts" "leaveOf" "[I") (List.mem_cons_of_mem _ (List.mem_append_left _ (List.mem_of_getElem? (i := 1) rfl)))
  have lk2 := hts (.fieldLink RX4 34 "AbbeyHours$Gifts" "leaveFrom" "[I") (List.mem_cons_of_mem _ (List.mem_append_left _ (List.mem_of_getElem? (i := 2) rfl)))
  have lk3 := hts (.fieldLink RX4 37 "AbbeyHours$Gifts" "leaveTo" "[I") (List.mem_cons_of_mem _ (List.mem_append_left _ (List.mem_of_getElem? (i := 3) rfl)))
  have lk4 := hts (.initialized RX11) (List.mem_cons_of_mem _ (List.mem_append_left _ (List.mem_of_getElem? (i := 5) rfl)))
  have lk5 := hts (.static yX11_within) (List.mem_cons_of_mem _ (List.mem_append_left _ (List.mem_of_getElem? (i := 4) rfl)))
  refine lv_iconst (v := 0) hx hb dX4_hasLeave_0 (by decide) ?_
  refine lv_istore_n (lv' := [(3, .int 0), (0, .ref h), (1, .int i), (2, .int d)]) hx hb dX4_hasLeave_1 rfl hl (by decide) rfl (fun ls hl => ?_)
  have loop2 : ∀ (fuel : Nat) (j : Int32), v_rows.toInt - j.toInt < (fuel : Int) → (0 ≤ j.toInt) → (j.toInt ≤ v_rows.toInt) → ∀ ls : Array Slot, lv_has ls 4 [(3, .int j), (0, .ref h), (1, .int i), (2, .int d)] → W p l e ({ frames := 1, cells := 0, slots := 0, locals := 22 } : Room) s m args below meth c s.heap [] 0 0 Q (F0 m 2 ls []) := by
    intro fuel
    induction fuel with
    | zero =>
      intro j hmu hi0 hi1 ls hl
      exfalso; omega
    | succ fuel ih2 =>
      intro j hmu hi0 hi1 ls hl
      refine lv_iload_n hx hb dX4_hasLeave_2 rfl (lv_at hl 0 rfl) ?_
      refine lv_aload_n hx hb dX4_hasLeave_3 rfl (lv_at hl 1 rfl) ?_
      refine va_get (D := D) (ci := 4) (v := .int v_rows) (C := RX4) (T := TX4) (N := 11) hx hb hts in_g_hasLeave_X4 hown hK.1 hP 0 rfl rfl 10 (by decide) lk0 (fun _ h9 => h9) rfl dX4_hasLeave_4 ?_
      refine lv_icmp_ge (tgt := 47) hx hb dX4_hasLeave_7 (by decide) (fun c_1 => ?_) (fun c_1 => ?_)
      · have tc_1 := t_le c_1
        refine lv_iconst (v := 0) hx hb dX4_hasLeave_47 (by decide) ?_
        exact hret 0 _ _ (show ((0 : Int32).toInt = 0 ∨ (0 : Int32).toInt = 1) from by omega) rfl dX4_hasLeave_48
      · have tc_1 := t_nle c_1
        refine lv_aload_n hx hb dX4_hasLeave_10 rfl (lv_at hl 1 rfl) ?_
        refine va_get (D := D) (ci := 4) (v := .ref a_leaveOf) (C := RX4) (T := TX4) (N := 11) hx hb hts in_g_hasLeave_X4 hown hK.1 hP 0 rfl rfl 6 (by decide) lk1 (fun _ h9 => h9) rfl dX4_hasLeave_11 ?_
        refine lv_iload_n hx hb dX4_hasLeave_14 rfl (lv_at hl 0 rfl) ?_
        refine va_iald hx hb hK.1 hP 1 0 rfl rfl (t_in (by omega) (by omega)) dX4_hasLeave_15 ?_
        refine lv_topi (fun y_2 ey_2 => ?_)
        refine lv_iload_n hx hb dX4_hasLeave_16 rfl (lv_at hl 2 rfl) ?_
        refine lv_icmp_ne (tgt := 41) hx hb dX4_hasLeave_17 (by decide) (fun c_3 => ?_) (fun c_3 => ?_)
        · have tc_3 := t_neq c_3
          obtain ⟨x_4, ex_4⟩ : ∃ y : Int32, y = j + 1 := ⟨_, rfl⟩
          refine lv_iinc (v := x_4) (lv' := [(3, .int x_4), (0, .ref h), (1, .int i), (2, .int d)]) hx hb dX4_hasLeave_41 hl (k := 0) rfl (by rw [ex_4]; rfl) (by decide) rfl (fun ls hl => ?_)
          first | have tx_4 := t_add ex_4 (by omega) (by omega) | skip
          refine lv_goto (tgt := 2) hx hb dX4_hasLeave_44 (by decide) ?_
          exact ih2 x_4 (by omega) (by omega) (by omega) ls (lv_sub hl [0, 1, 2, 3] rfl)
        · have tc_3 := t_eq c_3
          refine lv_iload_n hx hb dX4_hasLeave_20 rfl (lv_at hl 3 rfl) ?_
          refine lv_aload_n hx hb dX4_hasLeave_21 rfl (lv_at hl 1 rfl) ?_
          refine va_get (D := D) (ci := 4) (v := .ref a_leaveFrom) (C := RX4) (T := TX4) (N := 11) hx hb hts in_g_hasLeave_X4 hown hK.1 hP 0 rfl rfl 7 (by decide) lk2 (fun _ h9 => h9) rfl dX4_hasLeave_22 ?_
          refine lv_iload_n hx hb dX4_hasLeave_25 rfl (lv_at hl 0 rfl) ?_
          refine va_iald hx hb hK.1 hP 2 0 rfl rfl (t_in (by omega) (by omega)) dX4_hasLeave_26 ?_
          refine lv_topi (fun y_5 ey_5 => ?_)
          refine lv_aload_n hx hb dX4_hasLeave_27 rfl (lv_at hl 1 rfl) ?_
          refine va_get (D := D) (ci := 4) (v := .ref a_leaveTo) (C := RX4) (T := TX4) (N := 11) hx hb hts in_g_hasLeave_X4 hown hK.1 hP 0 rfl rfl 8 (by decide) lk3 (fun _ h9 => h9) rfl dX4_hasLeave_28 ?_
          refine lv_iload_n hx hb dX4_hasLeave_31 rfl (lv_at hl 0 rfl) ?_
          refine va_iald hx hb hK.1 hP 3 0 rfl rfl (t_in (by omega) (by omega)) dX4_hasLeave_32 ?_
          refine lv_topi (fun y_6 ey_6 => ?_)
          have hPc := hP.sub (ws' := []) [] rfl
          refine roSN (As := [.int d, .int y_5, .int y_6]) (rest := []) S (w_within  ) (⟨va_cnB 3 hts gX4_hasLeave_X11_within_n66 rfl rfl rfl (hK.nm 9 rfl) lk4 (by decide +kernel) ⟨Nat.le_of_ble_eq_true rfl, Nat.le_of_ble_eq_true rfl⟩, lk5, trivial⟩) hK hPc rfl hl.1 rfl (Nat.le_of_ble_eq_true rfl) dX4_hasLeave_33 ⟨Nat.le_of_ble_eq_true rfl, Nat.le_of_ble_eq_true rfl⟩ (fun r_7 hw_7 => ?_)
          have hw_7 : (r_7.toInt = 1 ∧ y_5.toInt ≤ d.toInt ∧ d.toInt ≤ y_6.toInt) ∨ (r_7.toInt = 0 ∧ (d.toInt < y_5.toInt ∨ y_6.toInt < d.toInt)) := hw_7
          refine lv_if_eq (tgt := 41) hx hb dX4_hasLeave_36 (by decide) (fun c_8 => ?_) (fun c_8 => ?_)
          · have tc_8 := t_eq c_8
            obtain ⟨x_9, ex_9⟩ : ∃ y : Int32, y = j + 1 := ⟨_, rfl⟩
            refine lv_iinc (v := x_9) (lv' := [(3, .int x_9), (0, .ref h), (1, .int i), (2, .int d)]) hx hb dX4_hasLeave_41 hl (k := 0) rfl (by rw [ex_9]; rfl) (by decide) rfl (fun ls hl => ?_)
            first | have tx_9 := t_add ex_9 (by omega) (by omega) | skip
            refine lv_goto (tgt := 2) hx hb dX4_hasLeave_44 (by decide) ?_
            exact ih2 x_9 (by omega) (by omega) (by omega) ls (lv_sub hl [0, 1, 2, 3] rfl)
          · have tc_8 := t_neq c_8
            refine lv_iconst (v := 1) hx hb dX4_hasLeave_39 (by decide) ?_
            exact hret 1 _ _ (show ((1 : Int32).toInt = 0 ∨ (1 : Int32).toInt = 1) from by omega) rfl dX4_hasLeave_40
  exact loop2 ((v_rows.toInt - (0 : Int32).toInt).toNat + 1) 0 (by omega) (by omega) (by omega) ls (lv_sub hl [0, 1, 2, 3] rfl)

theorem in_g_fallDue_X4 : ∀ w ∈ wsX40, w ∈ wsX4_fallDue := tl_X4_fallDue_X4
set_option maxHeartbeats 8000000 in
set_option maxRecDepth 100000 in
theorem g_fallDue {l : Launch} {D : va_G} {cI cZ cB : ClassId} {sz : Nat} {h a_weekly a_doubled a_dueOn a_owed a_said a_spared a_leaveOf a_leaveFrom a_leaveTo : Nat} {v_size v_rows : Int32} {f_weekly f_doubled f_dueOn f_owed f_spared f_leaveOf f_leaveFrom f_leaveTo : Nat → Int32} {d : Int32} (hv_size0 : 0 ≤ v_size.toInt) (hv_size1 : v_size.toInt ≤ 40) (hv_rows0 : 0 ≤ v_rows.toInt) (hv_rows1 : v_rows.toInt ≤ 40) : Met l yX4_fallDue wsX4_fallDue ({ frames := 2, cells := 0, slots := 0, locals := 45 }) (RW D cI cZ cB [.ref h, .int d] sz [(h, .inr (4, [.ref a_weekly, .ref a_doubled, .ref a_dueOn, .ref a_owed, .ref a_said, .ref a_spared, .ref a_leaveOf, .ref a_leaveFrom, .ref a_leaveTo, .int v_size, .int v_rows])), (a_weekly, .inl (cZ, 40, .inl f_weekly)), (a_doubled, .inl (cZ, 40, .inl f_doubled)), (a_dueOn, .inl (cI, 40, .inl f_dueOn)), (a_owed, .inl (cI, 40, .inl f_owed)), (a_spared, .inl (cI, 40, .inl f_spared)), (a_leaveOf, .inl (cI, 40, .inl f_leaveOf)), (a_leaveFrom, .inl (cI, 40, .inl f_leaveFrom)), (a_leaveTo, .inl (cI, 40, .inl f_leaveTo))]) (va_Qv (fun u : (Nat → Int32) × (Nat → Int32) => True) (BW D [(h, .inr (4, [.ref a_weekly, .ref a_doubled, .ref a_dueOn, .ref a_owed, .ref a_said, .ref a_spared, .ref a_leaveOf, .ref a_leaveFrom, .ref a_leaveTo, .int v_size, .int v_rows])), (a_weekly, .inl (cZ, 40, .inl f_weekly)), (a_doubled, .inl (cZ, 40, .inl f_doubled)), (a_dueOn, .inl (cI, 40, .inl f_dueOn)), (a_owed, .inl (cI, 40, .inl f_owed)), (a_spared, .inl (cI, 40, .inl f_spared)), (a_leaveOf, .inl (cI, 40, .inl f_leaveOf)), (a_leaveFrom, .inl (cI, 40, .inl f_leaveFrom)), (a_leaveTo, .inl (cI, 40, .inl f_leaveTo))] sz (fun u : (Nat → Int32) × (Nat → Int32) => [(h, .inr (4, [.ref a_weekly, .ref a_doubled, .ref a_dueOn, .ref a_owed, .ref a_said, .ref a_spared, .ref a_leaveOf, .ref a_leaveFrom, .ref a_leaveTo, .int v_size, .int v_rows])), (a_weekly, .inl (cZ, 40, .inl f_weekly)), (a_doubled, .inl (cZ, 40, .inl f_doubled)), (a_dueOn, .inl (cI, 40, .inl f_dueOn)), (a_owed, .inl (cI, 40, .inl u.1)), (a_spared, .inl (cI, 40, .inl u.2)), (a_leaveOf, .inl (cI, 40, .inl f_leaveOf)), (a_leaveFrom, .inl (cI, 40, .inl f_leaveFrom)), (a_leaveTo, .inl (cI, 40, .inl f_leaveTo))])) (va_A [(h, .inr (4, [.ref a_weekly, .ref a_doubled, .ref a_dueOn, .ref a_owed, .ref a_said, .ref a_spared, .ref a_leaveOf, .ref a_leaveFrom, .ref a_leaveTo, .int v_size, .int v_rows])), (a_weekly, .inl (cZ, 40, .inl f_weekly)), (a_doubled, .inl (cZ, 40, .inl f_doubled)), (a_dueOn, .inl (cI, 40, .inl f_dueOn)), (a_owed, .inl (cI, 40, .inl f_owed)), (a_spared, .inl (cI, 40, .inl f_spared)), (a_leaveOf, .inl (cI, 40, .inl f_leaveOf)), (a_leaveFrom, .inl (cI, 40, .inl f_leaveFrom)), (a_leaveTo, .inl (cI, 40, .inl f_leaveTo))] sz)) 0 0 (va_A [(h, .inr (4, [.ref a_weekly, .ref a_doubled, .ref a_dueOn, .ref a_owed, .ref a_said, .ref a_spared, .ref a_leaveOf, .ref a_leaveFrom, .ref a_leaveTo, .int v_size, .int v_rows])), (a_weekly, .inl (cZ, 40, .inl f_weekly)), (a_doubled, .inl (cZ, 40, .inl f_doubled)), (a_dueOn, .inl (cI, 40, .inl f_dueOn)), (a_owed, .inl (cI, 40, .inl f_owed)), (a_spared, .inl (cI, 40, .inl f_spared)), (a_leaveOf, .inl (cI, 40, .inl f_leaveOf)), (a_leaveFrom, .inl (cI, 40, .inl f_leaveFrom)), (a_leaveTo, .inl (cI, 40, .inl f_leaveTo))] sz) := by
  refine rw_retv (cc := cX4_fallDue) (maxL := 4) (own := RX4) (by decide) rfl rfl (Nat.le_of_ble_eq_true rfl) ?_
  intro p e s m args below meth c Q A S hin hret hP hK hD hA hS ls hl
  obtain ⟨hx, hb, hml, hown, hts⟩ := id S
  have hl : lv_has ls 4 [(0, .ref h), (1, .int d)] := hl
  have kk0 : (0 : Int32).toInt = 0 := by decide
  have kk1 : (1 : Int32).toInt = 1 := by decide
  have kk2 : (2 : Int32).toInt = 2 := by decide
  have lk0 := hts (.fieldLink RX4 40 "AbbeyHours$Gifts" "size" "I") (List.mem_cons_of_mem _ (List.mem_append_left _ (List.mem_of_getElem? (i := 0) rfl)))
  have lk1 := hts (.fieldLink RX4 15 "AbbeyHours$Gifts" "doubled" "[Z") (List.mem_cons_of_mem _ (List.mem_append_left _ (List.mem_of_getElem? (i := 1) rfl)))
  have lk2 := hts (.fieldLink RX4 22 "AbbeyHours$Gifts" "owed" "[I") (List.mem_cons_of_mem _ (List.mem_append_left _ (List.mem_of_getElem? (i := 3) rfl)))
  have lk3 := hts (.fieldLink RX4 28 "AbbeyHours$Gifts" "spared" "[I") (List.mem_cons_of_mem _ (List.mem_append_left _ (List.mem_of_getElem? (i := 2) rfl)))
  refine lv_iconst (v := 0) hx hb dX4_fallDue_0 (by decide) ?_
  refine lv_istore_n (lv' := [(2, .int 0), (0, .ref h), (1, .int d)]) hx hb dX4_fallDue_1 rfl hl (by decide) rfl (fun ls hl => ?_)
  have loop2 : ∀ (fuel : Nat) (j : Int32) (fo : Nat → Int32) (fs : Nat → Int32), v_size.toInt - j.toInt < (fuel : Int) → (0 ≤ j.toInt) → (j.toInt ≤ v_size.toInt) → ∀ (H : Heap) (locs : List Loc), va_P D vwCl [(h, .inr (4, [.ref a_weekly, .ref a_doubled, .ref a_dueOn, .ref a_owed, .ref a_said, .ref a_spared, .ref a_leaveOf, .ref a_leaveFrom, .ref a_leaveTo, .int v_size, .int v_rows])), (a_weekly, .inl (cZ, 40, .inl f_weekly)), (a_doubled, .inl (cZ, 40, .inl f_doubled)), (a_dueOn, .inl (cI, 40, .inl f_dueOn)), (a_owed, .inl (cI, 40, .inl fo)), (a_spared, .inl (cI, 40, .inl fs)), (a_leaveOf, .inl (cI, 40, .inl f_leaveOf)), (a_leaveFrom, .inl (cI, 40, .inl f_leaveFrom)), (a_leaveTo, .inl (cI, 40, .inl f_leaveTo))] H → va_D A [(h, .inr (4, [.ref a_weekly, .ref a_doubled, .ref a_dueOn, .ref a_owed, .ref a_said, .ref a_spared, .ref a_leaveOf, .ref a_leaveFrom, .ref a_leaveTo, .int v_size, .int v_rows])), (a_weekly, .inl (cZ, 40, .inl f_weekly)), (a_doubled, .inl (cZ, 40, .inl f_doubled)), (a_dueOn, .inl (cI, 40, .inl f_dueOn)), (a_owed, .inl (cI, 40, .inl fo)), (a_spared, .inl (cI, 40, .inl fs)), (a_leaveOf, .inl (cI, 40, .inl f_leaveOf)), (a_leaveFrom, .inl (cI, 40, .inl f_leaveFrom)), (a_leaveTo, .inl (cI, 40, .inl f_leaveTo))] → va_S A s.heap H locs → ∀ ls : Array Slot, lv_has ls 4 [(2, .int j), (0, .ref h), (1, .int d)] → W p l e ({ frames := 2, cells := 0, slots := 0, locals := 45 } : Room) s m args below meth c H locs 0 0 Q (F0 m 2 ls []) := by
    intro fuel
    induction fuel with
    | zero =>
      intro j fo fs hmu hj0 hj1 H locs hP hD hS ls hl
      exfalso; omega
    | succ fuel ih2 =>
      intro j fo fs hmu hj0 hj1 H locs hP hD hS ls hl
      refine lv_iload_n hx hb dX4_fallDue_2 rfl (lv_at hl 0 rfl) ?_
      refine lv_aload_n hx hb dX4_fallDue_3 rfl (lv_at hl 1 rfl) ?_
      refine va_get (D := D) (ci := 4) (v := .int v_size) (C := RX4) (T := TX4) (N := 11) hx hb hts in_g_fallDue_X4 hown hK.1 hP 0 rfl rfl 9 (by decide) lk0 (fun _ h9 => h9) rfl dX4_fallDue_4 ?_
      refine lv_icmp_ge (tgt := 72) hx hb dX4_fallDue_7 (by decide) (fun c_1 => ?_) (fun c_1 => ?_)
      · have tc_1 := t_le c_1
        exact hret (fo, fs) _ _ _ _ (show True from trivial) (hP.sub [0, 1, 2, 3, 4, 5, 6, 7, 8] rfl) (hD.sub [0, 1, 2, 3, 4, 5, 6, 7, 8] (by decide +kernel) rfl) hS dX4_fallDue_72
      · have tc_1 := t_nle c_1
        refine lv_aload_n hx hb dX4_fallDue_10 rfl (lv_at hl 1 rfl) ?_
        refine lv_iload_n hx hb dX4_fallDue_11 rfl (lv_at hl 0 rfl) ?_
        refine lv_iload_n hx hb dX4_fallDue_12 rfl (lv_at hl 2 rfl) ?_
        have hPc := hP.sub (ws' := [(h, .inr (4, [.ref a_weekly, .ref a_doubled, .ref a_dueOn, .ref a_owed, .ref a_said, .ref a_spared, .ref a_leaveOf, .ref a_leaveFrom, .ref a_leaveTo, .int v_size, .int v_rows])), (a_weekly, .inl (cZ, 40, .inl f_weekly)), (a_dueOn, .inl (cI, 40, .inl f_dueOn))]) [0, 1, 3] rfl
        refine roV (As := [.int j, .int d]) (rest := []) S (g_isDue  (by omega) (by omega)) (cwV 2 hts gX4_fallDue_X4_isDue rfl rfl rfl ⟨rfl, hd_X4_isDue⟩ ⟨Nat.le_of_ble_eq_true rfl, Nat.le_of_ble_eq_true rfl⟩) hK hPc (va_recv hK.1 hPc (ci := 4) (q0 := 0) rfl rfl) rfl hl.1 rfl (Nat.le_of_ble_eq_true rfl) dX4_fallDue_13 ⟨Nat.le_of_ble_eq_true rfl, Nat.le_of_ble_eq_true rfl⟩ (fun r_2 hw_2 => ?_)
        have hw_2 : (r_2.toInt = 0 ∨ r_2.toInt = 1) := hw_2
        refine lv_if_eq (tgt := 66) hx hb dX4_fallDue_16 (by decide) (fun c_3 => ?_) (fun c_3 => ?_)
        · have tc_3 := t_eq c_3
          obtain ⟨x_4, ex_4⟩ : ∃ y : Int32, y = j + 1 := ⟨_, rfl⟩
          refine lv_iinc (v := x_4) (lv' := [(2, .int x_4), (0, .ref h), (1, .int d)]) hx hb dX4_fallDue_66 hl (k := 0) rfl (by rw [ex_4]; rfl) (by decide) rfl (fun ls hl => ?_)
          first | have tx_4 := t_add ex_4 (by omega) (by omega) | skip
          refine lv_goto (tgt := 2) hx hb dX4_fallDue_69 (by decide) ?_
          exact ih2 x_4 fo fs (by omega) (by omega) (by omega) _ _ hP hD hS ls (lv_sub hl [0, 1, 2] rfl)
        · have tc_3 := t_neq c_3
          refine lv_aload_n hx hb dX4_fallDue_19 rfl (lv_at hl 1 rfl) ?_
          refine va_get (D := D) (ci := 4) (v := .ref a_doubled) (C := RX4) (T := TX4) (N := 11) hx hb hts in_g_fallDue_X4 hown hK.1 hP 0 rfl rfl 1 (by decide) lk1 (fun _ h9 => h9) rfl dX4_fallDue_20 ?_
          refine lv_iload_n hx hb dX4_fallDue_23 rfl (lv_at hl 0 rfl) ?_
          refine va_zald hx hb hK.1 hP 2 1 rfl rfl (t_in (by omega) (by omega)) dX4_fallDue_24 ?_
          refine lv_topi (fun y_5 ey_5 => ?_)
          refine lv_if_eq (tgt := 32) hx hb dX4_fallDue_25 (by decide) (fun c_6 => ?_) (fun c_6 => ?_)
          · have tc_6 := t_eq c_6
            refine lv_iconst (v := 1) hx hb dX4_fallDue_32 (by decide) ?_
            refine lv_istore_n (lv' := [(3, .int 1), (2, .int j), (0, .ref h), (1, .int d)]) hx hb dX4_fallDue_33 rfl hl (by decide) rfl (fun ls hl => ?_)
            refine lv_aload_n hx hb dX4_fallDue_34 rfl (lv_at hl 2 rfl) ?_
            refine lv_iload_n hx hb dX4_fallDue_35 rfl (lv_at hl 1 rfl) ?_
            refine lv_iload_n hx hb dX4_fallDue_36 rfl (lv_at hl 3 rfl) ?_
            have hPc := hP.sub (ws' := [(h, .inr (4, [.ref a_weekly, .ref a_doubled, .ref a_dueOn, .ref a_owed, .ref a_said, .ref a_spared, .ref a_leaveOf, .ref a_leaveFrom, .ref a_leaveTo, .int v_size, .int v_rows])), (a_leaveOf, .inl (cI, 40, .inl f_leaveOf)), (a_leaveFrom, .inl (cI, 40, .inl f_leaveFrom)), (a_leaveTo, .inl (cI, 40, .inl f_leaveTo))]) [0, 6, 7, 8] rfl
            refine roV (As := [.int j, .int d]) (rest := []) S (g_hasLeave  (by omega) (by omega)) (cwV 2 hts gX4_fallDue_X4_hasLeave rfl rfl rfl ⟨rfl, hd_X4_hasLeave⟩ ⟨Nat.le_of_ble_eq_true rfl, Nat.le_of_ble_eq_true rfl⟩) hK hPc (va_recv hK.1 hPc (ci := 4) (q0 := 0) rfl rfl) rfl hl.1 rfl (Nat.le_of_ble_eq_true rfl) dX4_fallDue_37 ⟨Nat.le_of_ble_eq_true rfl, Nat.le_of_ble_eq_true rfl⟩ (fun r_7 hw_7 => ?_)
            have hw_7 : (r_7.toInt = 0 ∨ r_7.toInt = 1) := hw_7
            refine lv_if_eq (tgt := 56) hx hb dX4_fallDue_40 (by decide) (fun c_8 => ?_) (fun c_8 => ?_)
            · have tc_8 := t_eq c_8
              refine lv_aload_n hx hb dX4_fallDue_56 rfl (lv_at hl 2 rfl) ?_
              refine va_get (D := D) (ci := 4) (v := .ref a_owed) (C := RX4) (T := TX4) (N := 11) hx hb hts in_g_fallDue_X4 hown hK.1 hP 0 rfl rfl 3 (by decide) lk2 (fun _ h9 => h9) rfl dX4_fallDue_57 ?_
              refine lv_iload_n hx hb dX4_fallDue_60 rfl (lv_at hl 1 rfl) ?_
              refine lv_dup2_11 hx hb dX4_fallDue_61 rfl rfl ?_
              refine va_iald hx hb hK.1 hP 4 0 rfl rfl (t_in (by omega) (by omega)) dX4_fallDue_62 ?_
              refine lv_topi (fun y_9 ey_9 => ?_)
              refine lv_iload_n hx hb dX4_fallDue_63 rfl (lv_at hl 0 rfl) ?_
              refine lv_iadd hx hb dX4_fallDue_64 ?_
              refine lv_topi (fun x_10 ex_10 => ?_)
              refine va_iast hx hb hK.1 hP hD hS 4 0 rfl rfl (t_in (by omega) (by omega)) dX4_fallDue_65 (fun H locs hP hD hS => ?_)
              obtain ⟨g_11, eg_11⟩ : ∃ z : Nat → Int32, z = upd fo ((j : Int32).toNatClampNeg) x_10 := ⟨_, rfl⟩
              rw [← eg_11] at hP hD
              have hP : va_P D vwCl [(h, .inr (4, [.ref a_weekly, .ref a_doubled, .ref a_dueOn, .ref a_owed, .ref a_said, .ref a_spared, .ref a_leaveOf, .ref a_leaveFrom, .ref a_leaveTo, .int v_size, .int v_rows])), (a_weekly, .inl (cZ, 40, .inl f_weekly)), (a_doubled, .inl (cZ, 40, .inl f_doubled)), (a_dueOn, .inl (cI, 40, .inl f_dueOn)), (a_owed, .inl (cI, 40, .inl g_11)), (a_spared, .inl (cI, 40, .inl fs)), (a_leaveOf, .inl (cI, 40, .inl f_leaveOf)), (a_leaveFrom, .inl (cI, 40, .inl f_leaveFrom)), (a_leaveTo, .inl (cI, 40, .inl f_leaveTo))] H := hP
              have hD := asD hP hD
              obtain ⟨x_12, ex_12⟩ : ∃ y : Int32, y = j + 1 := ⟨_, rfl⟩
              refine lv_iinc (v := x_12) (lv' := [(2, .int x_12), (3, .int 1), (0, .ref h), (1, .int d)]) hx hb dX4_fallDue_66 hl (k := 1) rfl (by rw [ex_12]; rfl) (by decide) rfl (fun ls hl => ?_)
              first | have tx_12 := t_add ex_12 (by omega) (by omega) | skip
              refine lv_goto (tgt := 2) hx hb dX4_fallDue_69 (by decide) ?_
              exact ih2 x_12 g_11 fs (by omega) (by omega) (by omega) _ _ hP hD hS ls (lv_sub hl [0, 2, 3] rfl)
            · have tc_8 := t_neq c_8
              refine lv_aload_n hx hb dX4_fallDue_43 rfl (lv_at hl 2 rfl) ?_
              refine va_get (D := D) (ci := 4) (v := .ref a_spared) (C := RX4) (T := TX4) (N := 11) hx hb hts in_g_fallDue_X4 hown hK.1 hP 0 rfl rfl 5 (by decide) lk3 (fun _ h9 => h9) rfl dX4_fallDue_44 ?_
              refine lv_iload_n hx hb dX4_fallDue_47 rfl (lv_at hl 1 rfl) ?_
              refine lv_dup2_11 hx hb dX4_fallDue_48 rfl rfl ?_
              refine va_iald hx hb hK.1 hP 5 0 rfl rfl (t_in (by omega) (by omega)) dX4_fallDue_49 ?_
              refine lv_topi (fun y_13 ey_13 => ?_)
              refine lv_iload_n hx hb dX4_fallDue_50 rfl (lv_at hl 0 rfl) ?_
              refine lv_iadd hx hb dX4_fallDue_51 ?_
              refine lv_topi (fun x_14 ex_14 => ?_)
              refine va_iast hx hb hK.1 hP hD hS 5 0 rfl rfl (t_in (by omega) (by omega)) dX4_fallDue_52 (fun H locs hP hD hS => ?_)
              obtain ⟨g_15, eg_15⟩ : ∃ z : Nat → Int32, z = upd fs ((j : Int32).toNatClampNeg) x_14 := ⟨_, rfl⟩
              rw [← eg_15] at hP hD
              have hP : va_P D vwCl [(h, .inr (4, [.ref a_weekly, .ref a_doubled, .ref a_dueOn, .ref a_owed, .ref a_said, .ref a_spared, .ref a_leaveOf, .ref a_leaveFrom, .ref a_leaveTo, .int v_size, .int v_rows])), (a_weekly, .inl (cZ, 40, .inl f_weekly)), (a_doubled, .inl (cZ, 40, .inl f_doubled)), (a_dueOn, .inl (cI, 40, .inl f_dueOn)), (a_owed, .inl (cI, 40, .inl fo)), (a_spared, .inl (cI, 40, .inl g_15)), (a_leaveOf, .inl (cI, 40, .inl f_leaveOf)), (a_leaveFrom, .inl (cI, 40, .inl f_leaveFrom)), (a_leaveTo, .inl (cI, 40, .inl f_leaveTo))] H := hP
              have hD := asD hP hD
              refine lv_goto (tgt := 66) hx hb dX4_fallDue_53 (by decide) ?_
              obtain ⟨x_16, ex_16⟩ : ∃ y : Int32, y = j + 1 := ⟨_, rfl⟩
              refine lv_iinc (v := x_16) (lv' := [(2, .int x_16), (3, .int 1), (0, .ref h), (1, .int d)]) hx hb dX4_fallDue_66 hl (k := 1) rfl (by rw [ex_16]; rfl) (by decide) rfl (fun ls hl => ?_)
              first | have tx_16 := t_add ex_16 (by omega) (by omega) | skip
              refine lv_goto (tgt := 2) hx hb dX4_fallDue_69 (by decide) ?_
              exact ih2 x_16 fo g_15 (by omega) (by omega) (by omega) _ _ hP hD hS ls (lv_sub hl [0, 2, 3] rfl)
          · have tc_6 := t_neq c_6
            refine lv_iconst (v := 2) hx hb dX4_fallDue_28 (by decide) ?_
            refine lv_goto (tgt := 33) hx hb dX4_fallDue_29 (by decide) ?_
            refine lv_istore_n (lv' := [(3, .int 2), (2, .int j), (0, .ref h), (1, .int d)]) hx hb dX4_fallDue_33 rfl hl (by decide) rfl (fun ls hl => ?_)
            refine lv_aload_n hx hb dX4_fallDue_34 rfl (lv_at hl 2 rfl) ?_
            refine lv_iload_n hx hb dX4_fallDue_35 rfl (lv_at hl 1 rfl) ?_
            refine lv_iload_n hx hb dX4_fallDue_36 rfl (lv_at hl 3 rfl) ?_
            have hPc := hP.sub (ws' := [(h, .inr (4, [.ref a_weekly, .ref a_doubled, .ref a_dueOn, .ref a_owed, .ref a_said, .ref a_spared, .ref a_leaveOf, .ref a_leaveFrom, .ref a_leaveTo, .int v_size, .int v_rows])), (a_leaveOf, .inl (cI, 40, .inl f_leaveOf)), (a_leaveFrom, .inl (cI, 40, .inl f_leaveFrom)), (a_leaveTo, .inl (cI, 40, .inl f_leaveTo))]) [0, 6, 7, 8] rfl
            refine roV (As := [.int j, .int d]) (rest := []) S (g_hasLeave  (by omega) (by omega)) (cwV 2 hts gX4_fallDue_X4_hasLeave rfl rfl rfl ⟨rfl, hd_X4_hasLeave⟩ ⟨Nat.le_of_ble_eq_true rfl, Nat.le_of_ble_eq_true rfl⟩) hK hPc (va_recv hK.1 hPc (ci := 4) (q0 := 0) rfl rfl) rfl hl.1 rfl (Nat.le_of_ble_eq_true rfl) dX4_fallDue_37 ⟨Nat.le_of_ble_eq_true rfl, Nat.le_of_ble_eq_true rfl⟩ (fun r_17 hw_17 => ?_)
            have hw_17 : (r_17.toInt = 0 ∨ r_17.toInt = 1) := hw_17
            refine lv_if_eq (tgt := 56) hx hb dX4_fallDue_40 (by decide) (fun c_18 => ?_) (fun c_18 => ?_)
            · have tc_18 := t_eq c_18
              refine lv_aload_n hx hb dX4_fallDue_56 rfl (lv_at hl 2 rfl) ?_
              refine va_get (D := D) (ci := 4) (v := .ref a_owed) (C := RX4) (T := TX4) (N := 11) hx hb hts in_g_fallDue_X4 hown hK.1 hP 0 rfl rfl 3 (by decide) lk2 (fun _ h9 => h9) rfl dX4_fallDue_57 ?_
              refine lv_iload_n hx hb dX4_fallDue_60 rfl (lv_at hl 1 rfl) ?_
              refine lv_dup2_11 hx hb dX4_fallDue_61 rfl rfl ?_
              refine va_iald hx hb hK.1 hP 4 0 rfl rfl (t_in (by omega) (by omega)) dX4_fallDue_62 ?_
              refine lv_topi (fun y_19 ey_19 => ?_)
              refine lv_iload_n hx hb dX4_fallDue_63 rfl (lv_at hl 0 rfl) ?_
              refine lv_iadd hx hb dX4_fallDue_64 ?_
              refine lv_topi (fun x_20 ex_20 => ?_)
              refine va_iast hx hb hK.1 hP hD hS 4 0 rfl rfl (t_in (by omega) (by omega)) dX4_fallDue_65 (fun H locs hP hD hS => ?_)
              obtain ⟨g_21, eg_21⟩ : ∃ z : Nat → Int32, z = upd fo ((j : Int32).toNatClampNeg) x_20 := ⟨_, rfl⟩
              rw [← eg_21] at hP hD
              have hP : va_P D vwCl [(h, .inr (4, [.ref a_weekly, .ref a_doubled, .ref a_dueOn, .ref a_owed, .ref a_said, .ref a_spared, .ref a_leaveOf, .ref a_leaveFrom, .ref a_leaveTo, .int v_size, .int v_rows])), (a_weekly, .inl (cZ, 40, .inl f_weekly)), (a_doubled, .inl (cZ, 40, .inl f_doubled)), (a_dueOn, .inl (cI, 40, .inl f_dueOn)), (a_owed, .inl (cI, 40, .inl g_21)), (a_spared, .inl (cI, 40, .inl fs)), (a_leaveOf, .inl (cI, 40, .inl f_leaveOf)), (a_leaveFrom, .inl (cI, 40, .inl f_leaveFrom)), (a_leaveTo, .inl (cI, 40, .inl f_leaveTo))] H := hP
              have hD := asD hP hD
              obtain ⟨x_22, ex_22⟩ : ∃ y : Int32, y = j + 1 := ⟨_, rfl⟩
              refine lv_iinc (v := x_22) (lv' := [(2, .int x_22), (3, .int 2), (0, .ref h), (1, .int d)]) hx hb dX4_fallDue_66 hl (k := 1) rfl (by rw [ex_22]; rfl) (by decide) rfl (fun ls hl => ?_)
              first | have tx_22 := t_add ex_22 (by omega) (by omega) | skip
              refine lv_goto (tgt := 2) hx hb dX4_fallDue_69 (by decide) ?_
              exact ih2 x_22 g_21 fs (by omega) (by omega) (by omega) _ _ hP hD hS ls (lv_sub hl [0, 2, 3] rfl)
            · have tc_18 := t_neq c_18
              refine lv_aload_n hx hb dX4_fallDue_43 rfl (lv_at hl 2 rfl) ?_
              refine va_get (D := D) (ci := 4) (v := .ref a_spared) (C := RX4) (T := TX4) (N := 11) hx hb hts in_g_fallDue_X4 hown hK.1 hP 0 rfl rfl 5 (by decide) lk3 (fun _ h9 => h9) rfl dX4_fallDue_44 ?_
              refine lv_iload_n hx hb dX4_fallDue_47 rfl (lv_at hl 1 rfl) ?_
              refine lv_dup2_11 hx hb dX4_fallDue_48 rfl rfl ?_
              refine va_iald hx hb hK.1 hP 5 0 rfl rfl (t_in (by omega) (by omega)) dX4_fallDue_49 ?_
              refine lv_topi (fun y_23 ey_23 => ?_)
              refine lv_iload_n hx hb dX4_fallDue_50 rfl (lv_at hl 0 rfl) ?_
              refine lv_iadd hx hb dX4_fallDue_51 ?_
              refine lv_topi (fun x_24 ex_24 => ?_)
              refine va_iast hx hb hK.1 hP hD hS 5 0 rfl rfl (t_in (by omega) (by omega)) dX4_fallDue_52 (fun H locs hP hD hS => ?_)
              obtain ⟨g_25, eg_25⟩ : ∃ z : Nat → Int32, z = upd fs ((j : Int32).toNatClampNeg) x_24 := ⟨_, rfl⟩
              rw [← eg_25] at hP hD
              have hP : va_P D vwCl [(h, .inr (4, [.ref a_weekly, .ref a_doubled, .ref a_dueOn, .ref a_owed, .ref a_said, .ref a_spared, .ref a_leaveOf, .ref a_leaveFrom, .ref a_leaveTo, .int v_size, .int v_rows])), (a_weekly, .inl (cZ, 40, .inl f_weekly)), (a_doubled, .inl (cZ, 40, .inl f_doubled)), (a_dueOn, .inl (cI, 40, .inl f_dueOn)), (a_owed, .inl (cI, 40, .inl fo)), (a_spared, .inl (cI, 40, .inl g_25)), (a_leaveOf, .inl (cI, 40, .inl f_leaveOf)), (a_leaveFrom, .inl (cI, 40, .inl f_leaveFrom)), (a_leaveTo, .inl (cI, 40, .inl f_leaveTo))] H := hP
              have hD := asD hP hD
              refine lv_goto (tgt := 66) hx hb dX4_fallDue_53 (by decide) ?_
              obtain ⟨x_26, ex_26⟩ : ∃ y : Int32, y = j + 1 := ⟨_, rfl⟩
              refine lv_iinc (v := x_26) (lv' := [(2, .int x_26), (3, .int 2), (0, .ref h), (1, .int d)]) hx hb dX4_fallDue_66 hl (k := 1) rfl (by rw [ex_26]; rfl) (by decide) rfl (fun ls hl => ?_)
              first | have tx_26 := t_add ex_26 (by omega) (by omega) | skip
              refine lv_goto (tgt := 2) hx hb dX4_fallDue_69 (by decide) ?_
              exact ih2 x_26 fo g_25 (by omega) (by omega) (by omega) _ _ hP hD hS ls (lv_sub hl [0, 2, 3] rfl)
  exact loop2 ((v_size.toInt - (0 : Int32).toInt).toNat + 1) 0 f_owed f_spared (by omega) (by omega) (by omega) _ _ hP hD hS ls (lv_sub hl [0, 1, 2] rfl)

theorem in_g_mostOwed_X4 : ∀ w ∈ wsX40, w ∈ wsX4_mostOwed := tl_X4_mostOwed_X4
set_option maxHeartbeats 8000000 in
set_option maxRecDepth 100000 in
theorem g_mostOwed {l : Launch} {D : va_G} {cI cZ cB : ClassId} {h a_weekly a_doubled a_dueOn a_owed a_said a_spared a_leaveOf a_leaveFrom a_leaveTo : Nat} {v_size v_rows : Int32} {f_owed : Nat → Int32} (hv_size0 : 0 ≤ v_size.toInt) (hv_size1 : v_size.toInt ≤ 40) : Met l yX4_mostOwed wsX4_mostOwed ({ frames := 0, cells := 0, slots := 0, locals := 0 }) (RO D cI cZ cB [.ref h] [(h, .inr (4, [.ref a_weekly, .ref a_doubled, .ref a_dueOn, .ref a_owed, .ref a_said, .ref a_spared, .ref a_leaveOf, .ref a_leaveFrom, .ref a_leaveTo, .int v_size, .int v_rows])), (a_owed, .inl (cI, 40, .inl f_owed))]) (vp_Si (fun r : Int32 => r.toInt = -1 ∨ (0 ≤ r.toInt ∧ r.toInt < v_size.toInt))) 0 0 (fun _ => False) := by
  refine ro_ret (cc := cX4_mostOwed) (maxL := 3) (ty := .int) (own := RX4) (by decide) rfl rfl (Nat.le_of_ble_eq_true rfl) ?_
  intro p e s m args below meth c Q S hret hP hK ls hl
  obtain ⟨hx, hb, hml, hown, hts⟩ := id S
  have hl : lv_has ls 3 [(0, .ref h)] := hl
  have kkm1 : (-1 : Int32).toInt = -1 := by decide
  have kk0 : (0 : Int32).toInt = 0 := by decide
  have kk1 : (1 : Int32).toInt = 1 := by decide
  have lk0 := hts (.fieldLink RX4 40 "AbbeyHours$Gifts" "size" "I") (List.mem_cons_of_mem _ (List.mem_append_left _ (List.mem_of_getElem? (i := 0) rfl)))
  have lk1 := hts (.fieldLink RX4 22 "AbbeyHours$Gifts" "owed" "[I") (List.mem_cons_of_mem _ (List.mem_append_left _ (List.mem_of_getElem? (i := 1) rfl)))
  refine lv_iconst (v := (-1)) hx hb dX4_mostOwed_0 (by decide) ?_
  refine lv_istore_n (lv' := [(1, .int (-1)), (0, .ref h)]) hx hb dX4_mostOwed_1 rfl hl (by decide) rfl (fun ls hl => ?_)
  refine lv_iconst (v := 0) hx hb dX4_mostOwed_2 (by decide) ?_
  refine lv_istore_n (lv' := [(2, .int 0), (1, .int (-1)), (0, .ref h)]) hx hb dX4_mostOwed_3 rfl hl (by decide) rfl (fun ls hl => ?_)
  have loop4 : ∀ (fuel : Nat) (a : Int32) (j : Int32), v_size.toInt - j.toInt < (fuel : Int) → (0 ≤ j.toInt) → (j.toInt ≤ v_size.toInt) → (a.toInt = -1 ∨ (0 ≤ a.toInt ∧ a.toInt < j.toInt)) → ∀ ls : Array Slot, lv_has ls 3 [(2, .int j), (1, .int a), (0, .ref h)] → W p l e ({ frames := 0, cells := 0, slots := 0, locals := 0 } : Room) s m args below meth c s.heap [] 0 0 Q (F0 m 4 ls []) := by
    intro fuel
    induction fuel with
    | zero =>
      intro a j hmu hj0 hj1 ha ls hl
      exfalso; omega
    | succ fuel ih4 =>
      intro a j hmu hj0 hj1 ha ls hl
      refine lv_iload_n hx hb dX4_mostOwed_4 rfl (lv_at hl 0 rfl) ?_
      refine lv_aload_n hx hb dX4_mostOwed_5 rfl (lv_at hl 2 rfl) ?_
      refine va_get (D := D) (ci := 4) (v := .int v_size) (C := RX4) (T := TX4) (N := 11) hx hb hts in_g_mostOwed_X4 hown hK.1 hP 0 rfl rfl 9 (by decide) lk0 (fun _ h9 => h9) rfl dX4_mostOwed_6 ?_
      refine lv_icmp_ge (tgt := 49) hx hb dX4_mostOwed_9 (by decide) (fun c_1 => ?_) (fun c_1 => ?_)
      · have tc_1 := t_le c_1
        refine lv_iload_n hx hb dX4_mostOwed_49 rfl (lv_at hl 1 rfl) ?_
        exact hret a _ _ (show a.toInt = -1 ∨ (0 ≤ a.toInt ∧ a.toInt < v_size.toInt) from by omega) rfl dX4_mostOwed_50
      · have tc_1 := t_nle c_1
        refine lv_aload_n hx hb dX4_mostOwed_12 rfl (lv_at hl 2 rfl) ?_
        refine va_get (D := D) (ci := 4) (v := .ref a_owed) (C := RX4) (T := TX4) (N := 11) hx hb hts in_g_mostOwed_X4 hown hK.1 hP 0 rfl rfl 3 (by decide) lk1 (fun _ h9 => h9) rfl dX4_mostOwed_13 ?_
        refine lv_iload_n hx hb dX4_mostOwed_16 rfl (lv_at hl 0 rfl) ?_
        refine va_iald hx hb hK.1 hP 1 0 rfl rfl (t_in (by omega) (by omega)) dX4_mostOwed_17 ?_
        refine lv_topi (fun y_2 ey_2 => ?_)
        refine lv_if_le (tgt := 43) hx hb dX4_mostOwed_18 (by decide) (fun c_3 => ?_) (fun c_3 => ?_)
        · have tc_3 := t_le c_3
          obtain ⟨x_4, ex_4⟩ : ∃ y : Int32, y = j + 1 := ⟨_, rfl⟩
          refine lv_iinc (v := x_4) (lv' := [(2, .int x_4), (1, .int a), (0, .ref h)]) hx hb dX4_mostOwed_43 hl (k := 0) rfl (by rw [ex_4]; rfl) (by decide) rfl (fun ls hl => ?_)
          first | have tx_4 := t_add ex_4 (by omega) (by omega) | skip
          refine lv_goto (tgt := 4) hx hb dX4_mostOwed_46 (by decide) ?_
          exact ih4 a x_4 (by omega) (by omega) (by omega) (by omega) ls (lv_sub hl [0, 1, 2] rfl)
        · have tc_3 := t_nle c_3
          refine lv_iload_n hx hb dX4_mostOwed_21 rfl (lv_at hl 1 rfl) ?_
          refine lv_iconst (v := (-1)) hx hb dX4_mostOwed_22 (by decide) ?_
          refine lv_icmp_eq (tgt := 41) hx hb dX4_mostOwed_23 (by decide) (fun c_5 => ?_) (fun c_5 => ?_)
          · have tc_5 := t_eq c_5
            refine lv_iload_n hx hb dX4_mostOwed_41 rfl (lv_at hl 0 rfl) ?_
            refine lv_istore_n (lv' := [(1, .int j), (2, .int j), (0, .ref h)]) hx hb dX4_mostOwed_42 rfl hl (by decide) rfl (fun ls hl => ?_)
            obtain ⟨x_6, ex_6⟩ : ∃ y : Int32, y = j + 1 := ⟨_, rfl⟩
            refine lv_iinc (v := x_6) (lv' := [(2, .int x_6), (1, .int j), (0, .ref h)]) hx hb dX4_mostOwed_43 hl (k := 1) rfl (by rw [ex_6]; rfl) (by decide) rfl (fun ls hl => ?_)
            first | have tx_6 := t_add ex_6 (by omega) (by omega) | skip
            refine lv_goto (tgt := 4) hx hb dX4_mostOwed_46 (by decide) ?_
            exact ih4 j x_6 (by omega) (by omega) (by omega) (by omega) ls (lv_sub hl [0, 1, 2] rfl)
          · have tc_5 := t_neq c_5
            refine lv_aload_n hx hb dX4_mostOwed_26 rfl (lv_at hl 2 rfl) ?_
            refine va_get (D := D) (ci := 4) (v := .ref a_owed) (C := RX4) (T := TX4) (N := 11) hx hb hts in_g_mostOwed_X4 hown hK.1 hP 0 rfl rfl 3 (by decide) lk1 (fun _ h9 => h9) rfl dX4_mostOwed_27 ?_
            refine lv_iload_n hx hb dX4_mostOwed_30 rfl (lv_at hl 0 rfl) ?_
            refine va_iald hx hb hK.1 hP 1 0 rfl rfl (t_in (by omega) (by omega)) dX4_mostOwed_31 ?_
            refine lv_topi (fun y_7 ey_7 => ?_)
            refine lv_aload_n hx hb dX4_mostOwed_32 rfl (lv_at hl 2 rfl) ?_
            refine va_get (D := D) (ci := 4) (v := .ref a_owed) (C := RX4) (T := TX4) (N := 11) hx hb hts in_g_mostOwed_X4 hown hK.1 hP 0 rfl rfl 3 (by decide) lk1 (fun _ h9 => h9) rfl dX4_mostOwed_33 ?_
            refine lv_iload_n hx hb dX4_mostOwed_36 rfl (lv_at hl 1 rfl) ?_
            refine va_iald hx hb hK.1 hP 1 0 rfl rfl (t_in (by omega) (by omega)) dX4_mostOwed_37 ?_
            refine lv_topi (fun y_8 ey_8 => ?_)
            refine lv_icmp_le (tgt := 43) hx hb dX4_mostOwed_38 (by decide) (fun c_9 => ?_) (fun c_9 => ?_)
            · have tc_9 := t_le c_9
              obtain ⟨x_10, ex_10⟩ : ∃ y : Int32, y = j + 1 := ⟨_, rfl⟩
              refine lv_iinc (v := x_10) (lv' := [(2, .int x_10), (1, .int a), (0, .ref h)]) hx hb dX4_mostOwed_43 hl (k := 0) rfl (by rw [ex_10]; rfl) (by decide) rfl (fun ls hl => ?_)
              first | have tx_10 := t_add ex_10 (by omega) (by omega) | skip
              refine lv_goto (tgt := 4) hx hb dX4_mostOwed_46 (by decide) ?_
              exact ih4 a x_10 (by omega) (by omega) (by omega) (by omega) ls (lv_sub hl [0, 1, 2] rfl)
            · have tc_9 := t_nle c_9
              refine lv_iload_n hx hb dX4_mostOwed_41 rfl (lv_at hl 0 rfl) ?_
              refine lv_istore_n (lv' := [(1, .int j), (2, .int j), (0, .ref h)]) hx hb dX4_mostOwed_42 rfl hl (by decide) rfl (fun ls hl => ?_)
              obtain ⟨x_11, ex_11⟩ : ∃ y : Int32, y = j + 1 := ⟨_, rfl⟩
              refine lv_iinc (v := x_11) (lv' := [(2, .int x_11), (1, .int j), (0, .ref h)]) hx hb dX4_mostOwed_43 hl (k := 1) rfl (by rw [ex_11]; rfl) (by decide) rfl (fun ls hl => ?_)
              first | have tx_11 := t_add ex_11 (by omega) (by omega) | skip
              refine lv_goto (tgt := 4) hx hb dX4_mostOwed_46 (by decide) ?_
              exact ih4 j x_11 (by omega) (by omega) (by omega) (by omega) ls (lv_sub hl [0, 1, 2] rfl)
  exact loop4 ((v_size.toInt - (0 : Int32).toInt).toNat + 1) (-1) 0 (by omega) (by omega) (by omega) (by omega) ls (lv_sub hl [0, 1, 2] rfl)

theorem in_g_say_X4 : ∀ w ∈ wsX40, w ∈ wsX4_say := tl_X4_say_X4
set_option maxHeartbeats 8000000 in
set_option maxRecDepth 100000 in
theorem g_say {l : Launch} {D : va_G} {cI cZ cB : ClassId} {sz : Nat} {h a_weekly a_doubled a_dueOn a_owed a_said a_spared a_leaveOf a_leaveFrom a_leaveTo : Nat} {v_size v_rows : Int32} {f_owed f_said : Nat → Int32} {x : Int32} (hv_size0 : 0 ≤ v_size.toInt) (hv_size1 : v_size.toInt ≤ 40) (hx : x.toInt ≤ 1000) : Met l yX4_say wsX4_say ({ frames := 1, cells := 0, slots := 0, locals := 22 }) (RW D cI cZ cB [.ref h, .int x] sz [(h, .inr (4, [.ref a_weekly, .ref a_doubled, .ref a_dueOn, .ref a_owed, .ref a_said, .ref a_spared, .ref a_leaveOf, .ref a_leaveFrom, .ref a_leaveTo, .int v_size, .int v_rows])), (a_owed, .inl (cI, 40, .inl f_owed)), (a_said, .inl (cI, 40, .inl f_said))]) (va_Qi (fun (r : Int32) (u : (Nat → Int32) × (Nat → Int32)) => True) (BW D [(h, .inr (4, [.ref a_weekly, .ref a_doubled, .ref a_dueOn, .ref a_owed, .ref a_said, .ref a_spared, .ref a_leaveOf, .ref a_leaveFrom, .ref a_leaveTo, .int v_size, .int v_rows])), (a_owed, .inl (cI, 40, .inl f_owed)), (a_said, .inl (cI, 40, .inl f_said))] sz (fun u : (Nat → Int32) × (Nat → Int32) => [(h, .inr (4, [.ref a_weekly, .ref a_doubled, .ref a_dueOn, .ref a_owed, .ref a_said, .ref a_spared, .ref a_leaveOf, .ref a_leaveFrom, .ref a_leaveTo, .int v_size, .int v_rows])), (a_owed, .inl (cI, 40, .inl u.1)), (a_said, .inl (cI, 40, .inl u.2))])) (va_A [(h, .inr (4, [.ref a_weekly, .ref a_doubled, .ref a_dueOn, .ref a_owed, .ref a_said, .ref a_spared, .ref a_leaveOf, .ref a_leaveFrom, .ref a_leaveTo, .int v_size, .int v_rows])), (a_owed, .inl (cI, 40, .inl f_owed)), (a_said, .inl (cI, 40, .inl f_said))] sz)) 0 0 (va_A [(h, .inr (4, [.ref a_weekly, .ref a_doubled, .ref a_dueOn, .ref a_owed, .ref a_said, .ref a_spared, .ref a_leaveOf, .ref a_leaveFrom, .ref a_leaveTo, .int v_size, .int v_rows])), (a_owed, .inl (cI, 40, .inl f_owed)), (a_said, .inl (cI, 40, .inl f_said))] sz) := by
  refine rw_ret (cc := cX4_say) (maxL := 5) (ty := .int) (own := RX4) (by decide) rfl rfl (Nat.le_of_ble_eq_true rfl) ?_
  intro p e s m args below meth c Q A S hin hret hP hK hD hA hS ls hl
  obtain ⟨hx, hb, hml, hown, hts⟩ := id S
  have hl : lv_has ls 5 [(0, .ref h), (1, .int x)] := hl
  have kkm1 : (-1 : Int32).toInt = -1 := by decide
  have kk0 : (0 : Int32).toInt = 0 := by decide
  have kk1 : (1 : Int32).toInt = 1 := by decide
  have lk0 := hts (.fieldLink RX4 22 "AbbeyHours$Gifts" "owed" "[I") (List.mem_cons_of_mem _ (List.mem_append_left _ (List.mem_of_getElem? (i := 0) rfl)))
  have lk1 := hts (.fieldLink RX4 25 "AbbeyHours$Gifts" "said" "[I") (List.mem_cons_of_mem _ (List.mem_append_left _ (List.mem_of_getElem? (i := 1) rfl)))
  refine lv_iconst (v := 0) hx hb dX4_say_0 (by decide) ?_
  refine lv_istore_n (lv' := [(2, .int 0), (0, .ref h), (1, .int x)]) hx hb dX4_say_1 rfl hl (by decide) rfl (fun ls hl => ?_)
  refine lv_iconst (v := 0) hx hb dX4_say_2 (by decide) ?_
  refine lv_istore_n (lv' := [(3, .int 0), (2, .int 0), (0, .ref h), (1, .int x)]) hx hb dX4_say_3 rfl hl (by decide) rfl (fun ls hl => ?_)
  have loop4 : ∀ (fuel : Nat) (ma : Int32) (j : Int32) (fo : Nat → Int32) (fs : Nat → Int32), 1001 - j.toInt < (fuel : Int) → (0 ≤ j.toInt) → (j.toInt ≤ 1000) → ∀ (H : Heap) (locs : List Loc), va_P D vwCl [(h, .inr (4, [.ref a_weekly, .ref a_doubled, .ref a_dueOn, .ref a_owed, .ref a_said, .ref a_spared, .ref a_leaveOf, .ref a_leaveFrom, .ref a_leaveTo, .int v_size, .int v_rows])), (a_owed, .inl (cI, 40, .inl fo)), (a_said, .inl (cI, 40, .inl fs))] H → va_D A [(h, .inr (4, [.ref a_weekly, .ref a_doubled, .ref a_dueOn, .ref a_owed, .ref a_said, .ref a_spared, .ref a_leaveOf, .ref a_leaveFrom, .ref a_leaveTo, .int v_size, .int v_rows])), (a_owed, .inl (cI, 40, .inl fo)), (a_said, .inl (cI, 40, .inl fs))] → va_S A s.heap H locs → ∀ ls : Array Slot, lv_has ls 5 [(3, .int j), (2, .int ma), (0, .ref h), (1, .int x)] → W p l e ({ frames := 1, cells := 0, slots := 0, locals := 22 } : Room) s m args below meth c H locs 0 0 Q (F0 m 4 ls []) := by
    intro fuel
    induction fuel with
    | zero =>
      intro ma j fo fs hmu hj0 hj1 H locs hP hD hS ls hl
      exfalso; omega
    | succ fuel ih4 =>
      intro ma j fo fs hmu hj0 hj1 H locs hP hD hS ls hl
      refine lv_iload_n hx hb dX4_say_4 rfl (lv_at hl 0 rfl) ?_
      refine lv_iload_n hx hb dX4_say_5 rfl (lv_at hl 3 rfl) ?_
      refine lv_icmp_ge (tgt := 54) hx hb dX4_say_6 (by decide) (fun c_1 => ?_) (fun c_1 => ?_)
      · have tc_1 := t_le c_1
        refine lv_iload_n hx hb dX4_say_54 rfl (lv_at hl 1 rfl) ?_
        exact hret ma (fo, fs) _ _ _ _ (show True from trivial) rfl (hP.sub [0, 1, 2] rfl) (hD.sub [0, 1, 2] (by decide +kernel) rfl) hS dX4_say_55
      · have tc_1 := t_nle c_1
        refine lv_aload_n hx hb dX4_say_9 rfl (lv_at hl 2 rfl) ?_
        have hPc := hP.sub (ws' := [(h, .inr (4, [.ref a_weekly, .ref a_doubled, .ref a_dueOn, .ref a_owed, .ref a_said, .ref a_spared, .ref a_leaveOf, .ref a_leaveFrom, .ref a_leaveTo, .int v_size, .int v_rows])), (a_owed, .inl (cI, 40, .inl fo))]) [0, 1] rfl
        refine roV (As := []) (rest := []) S (g_mostOwed  (by omega) (by omega)) (cwV 0 hts gX4_say_X4_mostOwed rfl rfl rfl ⟨rfl, hd_X4_mostOwed⟩ ⟨Nat.le_of_ble_eq_true rfl, Nat.le_of_ble_eq_true rfl⟩) hK hPc (va_recv hK.1 hPc (ci := 4) (q0 := 0) rfl rfl) rfl hl.1 rfl (Nat.le_of_ble_eq_true rfl) dX4_say_10 ⟨Nat.le_of_ble_eq_true rfl, Nat.le_of_ble_eq_true rfl⟩ (fun r_2 hw_2 => ?_)
        have hw_2 : r_2.toInt = -1 ∨ (0 ≤ r_2.toInt ∧ r_2.toInt < v_size.toInt) := hw_2
        refine lv_istore (lv' := [(4, .int r_2), (3, .int j), (2, .int ma), (0, .ref h), (1, .int x)]) hx hb dX4_say_13 hl (by decide) rfl (fun ls hl => ?_)
        refine lv_iload hx hb dX4_say_15 (lv_at hl 0 rfl) ?_
        refine lv_iconst (v := (-1)) hx hb dX4_say_17 (by decide) ?_
        refine lv_icmp_ne (tgt := 23) hx hb dX4_say_18 (by decide) (fun c_3 => ?_) (fun c_3 => ?_)
        · have tc_3 := t_neq c_3
          refine lv_aload_n hx hb dX4_say_23 rfl (lv_at hl 3 rfl) ?_
          refine va_get (D := D) (ci := 4) (v := .ref a_owed) (C := RX4) (T := TX4) (N := 11) hx hb hts in_g_say_X4 hown hK.1 hP 0 rfl rfl 3 (by decide) lk0 (fun _ h9 => h9) rfl dX4_say_24 ?_
          refine lv_iload hx hb dX4_say_27 (lv_at hl 0 rfl) ?_
          refine lv_dup2_11 hx hb dX4_say_29 rfl rfl ?_
          refine va_iald hx hb hK.1 hP 1 0 rfl rfl (t_in (by omega) (by omega)) dX4_say_30 ?_
          refine lv_topi (fun y_4 ey_4 => ?_)
          refine lv_iconst (v := 1) hx hb dX4_say_31 (by decide) ?_
          refine lv_isub hx hb dX4_say_32 ?_
          refine lv_topi (fun x_5 ex_5 => ?_)
          refine va_iast hx hb hK.1 hP hD hS 1 0 rfl rfl (t_in (by omega) (by omega)) dX4_say_33 (fun H locs hP hD hS => ?_)
          obtain ⟨g_6, eg_6⟩ : ∃ z : Nat → Int32, z = upd fo ((r_2 : Int32).toNatClampNeg) x_5 := ⟨_, rfl⟩
          rw [← eg_6] at hP hD
          have hP : va_P D vwCl [(h, .inr (4, [.ref a_weekly, .ref a_doubled, .ref a_dueOn, .ref a_owed, .ref a_said, .ref a_spared, .ref a_leaveOf, .ref a_leaveFrom, .ref a_leaveTo, .int v_size, .int v_rows])), (a_owed, .inl (cI, 40, .inl g_6)), (a_said, .inl (cI, 40, .inl fs))] H := hP
          have hD := asD hP hD
          refine lv_aload_n hx hb dX4_say_34 rfl (lv_at hl 3 rfl) ?_
          refine va_get (D := D) (ci := 4) (v := .ref a_said) (C := RX4) (T := TX4) (N := 11) hx hb hts in_g_say_X4 hown hK.1 hP 0 rfl rfl 4 (by decide) lk1 (fun _ h9 => h9) rfl dX4_say_35 ?_
          refine lv_iload hx hb dX4_say_38 (lv_at hl 0 rfl) ?_
          refine lv_dup2_11 hx hb dX4_say_40 rfl rfl ?_
          refine va_iald hx hb hK.1 hP 2 0 rfl rfl (t_in (by omega) (by omega)) dX4_say_41 ?_
          refine lv_topi (fun y_7 ey_7 => ?_)
          refine lv_iconst (v := 1) hx hb dX4_say_42 (by decide) ?_
          refine lv_iadd hx hb dX4_say_43 ?_
          refine lv_topi (fun x_8 ex_8 => ?_)
          refine va_iast hx hb hK.1 hP hD hS 2 0 rfl rfl (t_in (by omega) (by omega)) dX4_say_44 (fun H locs hP hD hS => ?_)
          obtain ⟨g_9, eg_9⟩ : ∃ z : Nat → Int32, z = upd fs ((r_2 : Int32).toNatClampNeg) x_8 := ⟨_, rfl⟩
          rw [← eg_9] at hP hD
          have hP : va_P D vwCl [(h, .inr (4, [.ref a_weekly, .ref a_doubled, .ref a_dueOn, .ref a_owed, .ref a_said, .ref a_spared, .ref a_leaveOf, .ref a_leaveFrom, .ref a_leaveTo, .int v_size, .int v_rows])), (a_owed, .inl (cI, 40, .inl g_6)), (a_said, .inl (cI, 40, .inl g_9))] H := hP
          have hD := asD hP hD
          obtain ⟨x_10, ex_10⟩ : ∃ y : Int32, y = ma + 1 := ⟨_, rfl⟩
          refine lv_iinc (v := x_10) (lv' := [(2, .int x_10), (4, .int r_2), (3, .int j), (0, .ref h), (1, .int x)]) hx hb dX4_say_45 hl (k := 2) rfl (by rw [ex_10]; rfl) (by decide) rfl (fun ls hl => ?_)
          obtain ⟨x_11, ex_11⟩ : ∃ y : Int32, y = j + 1 := ⟨_, rfl⟩
          refine lv_iinc (v := x_11) (lv' := [(3, .int x_11), (2, .int x_10), (4, .int r_2), (0, .ref h), (1, .int x)]) hx hb dX4_say_48 hl (k := 2) rfl (by rw [ex_11]; rfl) (by decide) rfl (fun ls hl => ?_)
          first | have tx_11 := t_add ex_11 (by omega) (by omega) | skip
          refine lv_goto (tgt := 4) hx hb dX4_say_51 (by decide) ?_
          exact ih4 x_10 x_11 g_6 g_9 (by omega) (by omega) (by omega) _ _ hP hD hS ls (lv_sub hl [0, 1, 3, 4] rfl)
        · have tc_3 := t_eq c_3
          refine lv_iload_n hx hb dX4_say_21 rfl (lv_at hl 2 rfl) ?_
          exact hret ma (fo, fs) _ _ _ _ (show True from trivial) rfl (hP.sub [0, 1, 2] rfl) (hD.sub [0, 1, 2] (by decide +kernel) rfl) hS dX4_say_22
  exact loop4 ((1001 - (0 : Int32).toInt).toNat + 1) 0 0 f_owed f_said (by omega) (by omega) (by omega) _ _ hP hD hS ls (lv_sub hl [0, 1, 2, 3] rfl)

theorem in_g_sum_X4 : ∀ w ∈ wsX40, w ∈ wsX4_sum := tl_X4_sum_X4
set_option maxHeartbeats 8000000 in
set_option maxRecDepth 100000 in
theorem g_sum {l : Launch} {D : va_G} {cI cZ cB : ClassId} {h a_weekly a_doubled a_dueOn a_owed a_said a_spared a_leaveOf a_leaveFrom a_leaveTo : Nat} {v_size v_rows : Int32} {am : Nat} {fm : Nat → Int32} (hv_size0 : 0 ≤ v_size.toInt) (hv_size1 : v_size.toInt ≤ 40) : Met l yX4_sum wsX4_sum ({ frames := 0, cells := 0, slots := 0, locals := 0 }) (RO D cI cZ cB [.ref h, .ref am] [(h, .inr (4, [.ref a_weekly, .ref a_doubled, .ref a_dueOn, .ref a_owed, .ref a_said, .ref a_spared, .ref a_leaveOf, .ref a_leaveFrom, .ref a_leaveTo, .int v_size, .int v_rows])), (am, .inl (cI, 40, .inl fm))]) (vp_Si (fun r : Int32 => v_size.toInt = 0 → r.toInt = 0)) 0 0 (fun _ => False) := by
  refine ro_ret (cc := cX4_sum) (maxL := 4) (ty := .int) (own := RX4) (by decide) rfl rfl (Nat.le_of_ble_eq_true rfl) ?_
  intro p e s m args below meth c Q S hret hP hK ls hl
  obtain ⟨hx, hb, hml, hown, hts⟩ := id S
  have hl : lv_has ls 4 [(0, .ref h), (1, .ref am)] := hl
  have kk0 : (0 : Int32).toInt = 0 := by decide
  have kk1 : (1 : Int32).toInt = 1 := by decide
  have lk0 := hts (.fieldLink RX4 40 "AbbeyHours$Gifts" "size" "I") (List.mem_cons_of_mem _ (List.mem_append_left _ (List.mem_of_getElem? (i := 0) rfl)))
  refine lv_iconst (v := 0) hx hb dX4_sum_0 (by decide) ?_
  refine lv_istore_n (lv' := [(2, .int 0), (0, .ref h), (1, .ref am)]) hx hb dX4_sum_1 rfl hl (by decide) rfl (fun ls hl => ?_)
  refine lv_iconst (v := 0) hx hb dX4_sum_2 (by decide) ?_
  refine lv_istore_n (lv' := [(3, .int 0), (2, .int 0), (0, .ref h), (1, .ref am)]) hx hb dX4_sum_3 rfl hl (by decide) rfl (fun ls hl => ?_)
  have loop4 : ∀ (fuel : Nat) (a : Int32) (j : Int32), v_size.toInt - j.toInt < (fuel : Int) → (0 ≤ j.toInt) → (j.toInt ≤ v_size.toInt) → (v_size.toInt = 0 → a.toInt = 0) → ∀ ls : Array Slot, lv_has ls 4 [(3, .int j), (2, .int a), (0, .ref h), (1, .ref am)] → W p l e ({ frames := 0, cells := 0, slots := 0, locals := 0 } : Room) s m args below meth c s.heap [] 0 0 Q (F0 m 4 ls []) := by
    intro fuel
    induction fuel with
    | zero =>
      intro a j hmu hj0 hj1 ha ls hl
      exfalso; omega
    | succ fuel ih4 =>
      intro a j hmu hj0 hj1 ha ls hl
      refine lv_iload_n hx hb dX4_sum_4 rfl (lv_at hl 0 rfl) ?_
      refine lv_aload_n hx hb dX4_sum_5 rfl (lv_at hl 2 rfl) ?_
      refine va_get (D := D) (ci := 4) (v := .int v_size) (C := RX4) (T := TX4) (N := 11) hx hb hts in_g_sum_X4 hown hK.1 hP 0 rfl rfl 9 (by decide) lk0 (fun _ h9 => h9) rfl dX4_sum_6 ?_
      refine lv_icmp_ge (tgt := 24) hx hb dX4_sum_9 (by decide) (fun c_1 => ?_) (fun c_1 => ?_)
      · have tc_1 := t_le c_1
        refine lv_iload_n hx hb dX4_sum_24 rfl (lv_at hl 1 rfl) ?_
        exact hret a _ _ (show v_size.toInt = 0 → a.toInt = 0 from by omega) rfl dX4_sum_25
      · have tc_1 := t_nle c_1
        refine lv_iload_n hx hb dX4_sum_12 rfl (lv_at hl 1 rfl) ?_
        refine lv_aload_n hx hb dX4_sum_13 rfl (lv_at hl 3 rfl) ?_
        refine lv_iload_n hx hb dX4_sum_14 rfl (lv_at hl 0 rfl) ?_
        refine va_iald hx hb hK.1 hP 1 0 rfl rfl (t_in (by omega) (by omega)) dX4_sum_15 ?_
        refine lv_topi (fun y_2 ey_2 => ?_)
        refine lv_iadd hx hb dX4_sum_16 ?_
        refine lv_topi (fun x_3 ex_3 => ?_)
        refine lv_istore_n (lv' := [(2, .int x_3), (3, .int j), (0, .ref h), (1, .ref am)]) hx hb dX4_sum_17 rfl hl (by decide) rfl (fun ls hl => ?_)
        obtain ⟨x_4, ex_4⟩ : ∃ y : Int32, y = j + 1 := ⟨_, rfl⟩
        refine lv_iinc (v := x_4) (lv' := [(3, .int x_4), (2, .int x_3), (0, .ref h), (1, .ref am)]) hx hb dX4_sum_18 hl (k := 1) rfl (by rw [ex_4]; rfl) (by decide) rfl (fun ls hl => ?_)
        first | have tx_4 := t_add ex_4 (by omega) (by omega) | skip
        refine lv_goto (tgt := 4) hx hb dX4_sum_21 (by decide) ?_
        exact ih4 x_3 x_4 (by omega) (by omega) (by omega) (by omega) ls (lv_sub hl [0, 1, 2, 3] rfl)
  exact loop4 ((v_size.toInt - (0 : Int32).toInt).toNat + 1) 0 0 (by omega) (by omega) (by omega) (by omega) ls (lv_sub hl [0, 1, 2, 3] rfl)

theorem in_g_owedInAll_X4 : ∀ w ∈ wsX40, w ∈ wsX4_owedInAll := tl_X4_owedInAll_X4
set_option maxHeartbeats 8000000 in
set_option maxRecDepth 100000 in
theorem g_owedInAll {l : Launch} {D : va_G} {cI cZ cB : ClassId} {h a_weekly a_doubled a_dueOn a_owed a_said a_spared a_leaveOf a_leaveFrom a_leaveTo : Nat} {v_size v_rows : Int32} {f_owed : Nat → Int32} (hv_size0 : 0 ≤ v_size.toInt) (hv_size1 : v_size.toInt ≤ 40) : Met l yX4_owedInAll wsX4_owedInAll ({ frames := 1, cells := 0, slots := 0, locals := 23 }) (RO D cI cZ cB [.ref h] [(h, .inr (4, [.ref a_weekly, .ref a_doubled, .ref a_dueOn, .ref a_owed, .ref a_said, .ref a_spared, .ref a_leaveOf, .ref a_leaveFrom, .ref a_leaveTo, .int v_size, .int v_rows])), (a_owed, .inl (cI, 40, .inl f_owed))]) (vp_Si (fun r : Int32 => v_size.toInt = 0 → r.toInt = 0)) 0 0 (fun _ => False) := by
  refine ro_ret (cc := cX4_owedInAll) (maxL := 1) (ty := .int) (own := RX4) (by decide) rfl rfl (Nat.le_of_ble_eq_true rfl) ?_
  intro p e s m args below meth c Q S hret hP hK ls hl
  obtain ⟨hx, hb, hml, hown, hts⟩ := id S
  have hl : lv_has ls 1 [(0, .ref h)] := hl
  have kk0 : (0 : Int32).toInt = 0 := by decide
  have lk0 := hts (.fieldLink RX4 22 "AbbeyHours$Gifts" "owed" "[I") (List.mem_cons_of_mem _ (List.mem_append_left _ (List.mem_of_getElem? (i := 0) rfl)))
  refine lv_aload_n hx hb dX4_owedInAll_0 rfl (lv_at hl 0 rfl) ?_
  refine lv_aload_n hx hb dX4_owedInAll_1 rfl (lv_at hl 0 rfl) ?_
  refine va_get (D := D) (ci := 4) (v := .ref a_owed) (C := RX4) (T := TX4) (N := 11) hx hb hts in_g_owedInAll_X4 hown hK.1 hP 0 rfl rfl 3 (by decide) lk0 (fun _ h9 => h9) rfl dX4_owedInAll_2 ?_
  have hPc := hP.sub (ws' := [(h, .inr (4, [.ref a_weekly, .ref a_doubled, .ref a_dueOn, .ref a_owed, .ref a_said, .ref a_spared, .ref a_leaveOf, .ref a_leaveFrom, .ref a_leaveTo, .int v_size, .int v_rows])), (a_owed, .inl (cI, 40, .inl f_owed))]) [0, 1] rfl
  refine roV (As := [.ref a_owed]) (rest := []) S (g_sum  (by omega) (by omega)) (cwV 1 hts gX4_owedInAll_X4_sum rfl rfl rfl ⟨rfl, hd_X4_sum⟩ ⟨Nat.le_of_ble_eq_true rfl, Nat.le_of_ble_eq_true rfl⟩) hK hPc (va_recv hK.1 hPc (ci := 4) (q0 := 0) rfl rfl) rfl hl.1 rfl (Nat.le_of_ble_eq_true rfl) dX4_owedInAll_5 ⟨Nat.le_of_ble_eq_true rfl, Nat.le_of_ble_eq_true rfl⟩ (fun r_1 hw_1 => ?_)
  have hw_1 : v_size.toInt = 0 → r_1.toInt = 0 := hw_1
  exact hret r_1 _ _ (show v_size.toInt = 0 → r_1.toInt = 0 from by omega) rfl dX4_owedInAll_8

theorem in_g_saidInAll_X4 : ∀ w ∈ wsX40, w ∈ wsX4_saidInAll := tl_X4_saidInAll_X4
set_option maxHeartbeats 8000000 in
set_option maxRecDepth 100000 in
theorem g_saidInAll {l : Launch} {D : va_G} {cI cZ cB : ClassId} {h a_weekly a_doubled a_dueOn a_owed a_said a_spared a_leaveOf a_leaveFrom a_leaveTo : Nat} {v_size v_rows : Int32} {f_said : Nat → Int32} (hv_size0 : 0 ≤ v_size.toInt) (hv_size1 : v_size.toInt ≤ 40) : Met l yX4_saidInAll wsX4_saidInAll ({ frames := 1, cells := 0, slots := 0, locals := 23 }) (RO D cI cZ cB [.ref h] [(h, .inr (4, [.ref a_weekly, .ref a_doubled, .ref a_dueOn, .ref a_owed, .ref a_said, .ref a_spared, .ref a_leaveOf, .ref a_leaveFrom, .ref a_leaveTo, .int v_size, .int v_rows])), (a_said, .inl (cI, 40, .inl f_said))]) (vp_Si (fun r : Int32 => v_size.toInt = 0 → r.toInt = 0)) 0 0 (fun _ => False) := by
  refine ro_ret (cc := cX4_saidInAll) (maxL := 1) (ty := .int) (own := RX4) (by decide) rfl rfl (Nat.le_of_ble_eq_true rfl) ?_
  intro p e s m args below meth c Q S hret hP hK ls hl
  obtain ⟨hx, hb, hml, hown, hts⟩ := id S
  have hl : lv_has ls 1 [(0, .ref h)] := hl
  have kk0 : (0 : Int32).toInt = 0 := by decide
  have lk0 := hts (.fieldLink RX4 25 "AbbeyHours$Gifts" "said" "[I") (List.mem_cons_of_mem _ (List.mem_append_left _ (List.mem_of_getElem? (i := 0) rfl)))
  refine lv_aload_n hx hb dX4_saidInAll_0 rfl (lv_at hl 0 rfl) ?_
  refine lv_aload_n hx hb dX4_saidInAll_1 rfl (lv_at hl 0 rfl) ?_
  refine va_get (D := D) (ci := 4) (v := .ref a_said) (C := RX4) (T := TX4) (N := 11) hx hb hts in_g_saidInAll_X4 hown hK.1 hP 0 rfl rfl 4 (by decide) lk0 (fun _ h9 => h9) rfl dX4_saidInAll_2 ?_
  have hPc := hP.sub (ws' := [(h, .inr (4, [.ref a_weekly, .ref a_doubled, .ref a_dueOn, .ref a_owed, .ref a_said, .ref a_spared, .ref a_leaveOf, .ref a_leaveFrom, .ref a_leaveTo, .int v_size, .int v_rows])), (a_said, .inl (cI, 40, .inl f_said))]) [0, 1] rfl
  refine roV (As := [.ref a_said]) (rest := []) S (g_sum  (by omega) (by omega)) (cwV 1 hts gX4_saidInAll_X4_sum rfl rfl rfl ⟨rfl, hd_X4_sum⟩ ⟨Nat.le_of_ble_eq_true rfl, Nat.le_of_ble_eq_true rfl⟩) hK hPc (va_recv hK.1 hPc (ci := 4) (q0 := 0) rfl rfl) rfl hl.1 rfl (Nat.le_of_ble_eq_true rfl) dX4_saidInAll_5 ⟨Nat.le_of_ble_eq_true rfl, Nat.le_of_ble_eq_true rfl⟩ (fun r_1 hw_1 => ?_)
  have hw_1 : v_size.toInt = 0 → r_1.toInt = 0 := hw_1
  exact hret r_1 _ _ (show v_size.toInt = 0 → r_1.toInt = 0 from by omega) rfl dX4_saidInAll_8

