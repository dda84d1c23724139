theorem in_y_keep_X10 : ∀ w ∈ wsX100, w ∈ wsX10_keep := tl_X10_keep_X10
set_option maxHeartbeats 8000000 in
set_option maxRecDepth 100000 in
theorem y_keep {l : Launch} {D : va_G} {cI cZ cB : ClassId} {adK adV : Nat → Nat} {sz : Nat} {h a_kinds a_places a_values ht ta_bytes : Nat} {v_size v_textLength tv_length : Int32} {f_kinds f_places f_values tf_bytes : Nat → Int32} {a b : Int32} (htv_length0 : 0 ≤ tv_length.toInt) (htv_length1 : tv_length.toInt ≤ 600) (hv_size0 : 0 ≤ v_size.toInt) (hv_size1 : v_size.toInt ≤ 97) (ha0 : 0 ≤ a.toInt) (hb1 : b.toInt ≤ 601) : Met l yX10_keep wsX10_keep ({ frames := 7, cells := 0, slots := 0, locals := 154 }) (RWs D cI cZ cB adK adV [.ref h, .ref ht, .int a, .int b] sz [(h, .inr (9, [.ref a_kinds, .ref a_places, .ref a_values, .int v_size, .int v_textLength])), (a_kinds, .inl (cI, 97, .inl f_kinds)), (a_places, .inl (cI, 97, .inl f_places)), (a_values, .inl (cI, 97, .inl f_values)), (ht, .inr (8, [.ref ta_bytes, .int tv_length])), (ta_bytes, .inl (cB, 600, .inl tf_bytes))]) (va_Qv (fun u : Int32 × (Nat → Int32) × (Nat → Int32) × (Nat → Int32) => 0 ≤ u.1.toInt ∧ u.1.toInt ≤ 97) (BW D [(h, .inr (9, [.ref a_kinds, .ref a_places, .ref a_values, .int v_size, .int v_textLength])), (a_kinds, .inl (cI, 97, .inl f_kinds)), (a_places, .inl (cI, 97, .inl f_places)), (a_values, .inl (cI, 97, .inl f_values)), (ht, .inr (8, [.ref ta_bytes, .int tv_length])), (ta_bytes, .inl (cB, 600, .inl tf_bytes))] sz (fun u : Int32 × (Nat → Int32) × (Nat → Int32) × (Nat → Int32) => [(h, .inr (9, [.ref a_kinds, .ref a_places, .ref a_values, .int u.1, .int v_textLength])), (a_kinds, .inl (cI, 97, .inl u.2.1)), (a_places, .inl (cI, 97, .inl u.2.2.1)), (a_values, .inl (cI, 97, .inl u.2.2.2)), (ht, .inr (8, [.ref ta_bytes, .int tv_length])), (ta_bytes, .inl (cB, 600, .inl tf_bytes))])) (va_A [(h, .inr (9, [.ref a_kinds, .ref a_places, .ref a_values, .int v_size, .int v_textLength])), (a_kinds, .inl (cI, 97, .inl f_kinds)), (a_places, .inl (cI, 97, .inl f_places)), (a_values, .inl (cI, 97, .inl f_values)), (ht, .inr (8, [.ref ta_bytes, .int tv_length])), (ta_bytes, .inl (cB, 600, .inl tf_bytes))] sz)) 0 (0) (va_A [(h, .inr (9, [.ref a_kinds, .ref a_places, .ref a_values, .int v_size, .int v_textLength])), (a_kinds, .inl (cI, 97, .inl f_kinds)), (a_places, .inl (cI, 97, .inl f_places)), (a_values, .inl (cI, 97, .inl f_values)), (ht, .inr (8, [.ref ta_bytes, .int tv_length])), (ta_bytes, .inl (cB, 600, .inl tf_bytes))] sz) := by
  refine rws_retv (cc := cX10_keep) (maxL := 5) (own := RX10) (by decide) rfl rfl (Nat.le_of_ble_eq_true rfl) ?_
  intro p e s m args below meth c Q A S hin hret hP hK hD hA hS hZ ls hl
  obtain ⟨hx, hb, hml, hown, hts⟩ := id S
  have hl : lv_has ls 5 [(0, .ref h), (1, .ref ht), (2, .int a), (3, .int b)] := hl
  have kk0 : (0 : Int32).toInt = 0 := by decide
  have kk1 : (1 : Int32).toInt = 1 := by decide
  have kk3 : (3 : Int32).toInt = 3 := by decide
  have kk97 : (97 : Int32).toInt = 97 := by decide
  have lk0 := hts (.fieldLink RX10 21 "AbbeyHours$Tokens" "size" "I") (mc_X10_keep_r1 _ (List.mem_of_getElem? (i := 0) rfl))
  have lk1 := hts (.fieldLink RX10 11 "AbbeyHours$Tokens" "kinds" "[I") (mc_X10_keep_r1 _ (List.mem_of_getElem? (i := 1) rfl))
  have lk2 := hts (.fieldLink RX10 15 "AbbeyHours$Tokens" "places" "[I") (mc_X10_keep_r1 _ (List.mem_of_getElem? (i := 2) rfl))
  have lk3 := hts (.fieldLink RX10 18 "AbbeyHours$Tokens" "values" "[I") (mc_X10_keep_r1 _ (List.mem_of_getElem? (i := 3) rfl))
  refine lv_aload_n hx hb dX10_keep_0 rfl (lv_at hl 0 rfl) ?_
  refine va_get (D := D) (ci := 9) (v := .int v_size) (C := RX10) (T := TX10) (N := 5) hx hb hts in_y_keep_X10 hown hK.1 hP 0 rfl rfl 3 (by decide) lk0 (fun _ h9 => h9) rfl dX10_keep_1 ?_
  refine lv_bipush (v := 97) hx hb dX10_keep_4 (by decide) ?_
  refine lv_icmp_lt (tgt := 10) hx hb dX10_keep_6 (by decide) (fun c_1 => ?_) (fun c_1 => ?_)
  · have tc_1 := t_lt c_1
    refine lv_aload_n hx hb dX10_keep_10 rfl (lv_at hl 1 rfl) ?_
    refine lv_iload_n hx hb dX10_keep_11 rfl (lv_at hl 2 rfl) ?_
    refine lv_iload_n hx hb dX10_keep_12 rfl (lv_at hl 3 rfl) ?_
    have hPc := hP.sub (ws' := [(ht, .inr (8, [.ref ta_bytes, .int tv_length])), (ta_bytes, .inl (cB, 600, .inl tf_bytes))]) [4, 5] rfl
    refine rosS (As := [.ref ht, .int a, .int b]) (rest := []) S (y_kindOf  (by omega) (by omega)) (va_cwS 3 hts gX10_keep_X10_kindOf rfl rfl rfl hd_X10_kindOf ⟨Nat.le_of_ble_eq_true rfl, Nat.le_of_ble_eq_true rfl⟩) hK (SX.narrow (hZ.kept (fun a h1 h2 => hS.2.1 a h1 h2)) (fun _ h => h.elim)) hPc rfl hl.1 rfl (Nat.le_of_ble_eq_true rfl) dX10_keep_13 ⟨Nat.le_of_ble_eq_true rfl, Nat.le_of_ble_eq_true rfl⟩ (fun r_2 hw_2 => ?_)
    have hw_2 : True := hw_2
    refine lv_istore (lv' := [(4, .int r_2), (0, .ref h), (1, .ref ht), (2, .int a), (3, .int b)]) hx hb dX10_keep_16 hl (by decide) rfl (fun ls hl => ?_)
    refine lv_aload_n hx hb dX10_keep_18 rfl (lv_at hl 1 rfl) ?_
    refine va_get (D := D) (ci := 9) (v := .ref a_kinds) (C := RX10) (T := TX10) (N := 5) hx hb hts in_y_keep_X10 hown hK.1 hP 0 rfl rfl 0 (by decide) lk1 (fun _ h9 => h9) rfl dX10_keep_19 ?_
    refine lv_aload_n hx hb dX10_keep_22 rfl (lv_at hl 1 rfl) ?_
    refine va_get (D := D) (ci := 9) (v := .int v_size) (C := RX10) (T := TX10) (N := 5) hx hb hts in_y_keep_X10 hown hK.1 hP 0 rfl rfl 3 (by decide) lk0 (fun _ h9 => h9) rfl dX10_keep_23 ?_
    refine lv_iload hx hb dX10_keep_26 (lv_at hl 0 rfl) ?_
    refine va_iast hx hb hK.1 hP hD hS 1 0 rfl rfl (t_in (by omega) (by omega)) dX10_keep_28 (fun H locs hP hD hS => ?_)
    obtain ⟨g_3, eg_3⟩ : ∃ z : Nat → Int32, z = upd f_kinds ((v_size : Int32).toNatClampNeg) r_2 := ⟨_, rfl⟩
    rw [← eg_3] at hP hD
    have hP : va_P D vwCl [(h, .inr (9, [.ref a_kinds, .ref a_places, .ref a_values, .int v_size, .int v_textLength])), (a_kinds, .inl (cI, 97, .inl g_3)), (a_places, .inl (cI, 97, .inl f_places)), (a_values, .inl (cI, 97, .inl f_values)), (ht, .inr (8, [.ref ta_bytes, .int tv_length])), (ta_bytes, .inl (cB, 600, .inl tf_bytes))] H := hP
    have hD := asD hP hD
    refine lv_aload_n hx hb dX10_keep_29 rfl (lv_at hl 1 rfl) ?_
    refine va_get (D := D) (ci := 9) (v := .ref a_places) (C := RX10) (T := TX10) (N := 5) hx hb hts in_y_keep_X10 hown hK.1 hP 0 rfl rfl 1 (by decide) lk2 (fun _ h9 => h9) rfl dX10_keep_30 ?_
    refine lv_aload_n hx hb dX10_keep_33 rfl (lv_at hl 1 rfl) ?_
    refine va_get (D := D) (ci := 9) (v := .int v_size) (C := RX10) (T := TX10) (N := 5) hx hb hts in_y_keep_X10 hown hK.1 hP 0 rfl rfl 3 (by decide) lk0 (fun _ h9 => h9) rfl dX10_keep_34 ?_
    refine lv_iload_n hx hb dX10_keep_37 rfl (lv_at hl 3 rfl) ?_
    refine va_iast hx hb hK.1 hP hD hS 2 0 rfl rfl (t_in (by omega) (by omega)) dX10_keep_38 (fun H locs hP hD hS => ?_)
    obtain ⟨g_4, eg_4⟩ : ∃ z : Nat → Int32, z = upd f_places ((v_size : Int32).toNatClampNeg) a := ⟨_, rfl⟩
    rw [← eg_4] at hP hD
    have hP : va_P D vwCl [(h, .inr (9, [.ref a_kinds, .ref a_places, .ref a_values, .int v_size, .int v_textLength])), (a_kinds, .inl (cI, 97, .inl g_3)), (a_places, .inl (cI, 97, .inl g_4)), (a_values, .inl (cI, 97, .inl f_values)), (ht, .inr (8, [.ref ta_bytes, .int tv_length])), (ta_bytes, .inl (cB, 600, .inl tf_bytes))] H := hP
    have hD := asD hP hD
    refine lv_aload_n hx hb dX10_keep_39 rfl (lv_at hl 1 rfl) ?_
    refine va_get (D := D) (ci := 9) (v := .ref a_values) (C := RX10) (T := TX10) (N := 5) hx hb hts in_y_keep_X10 hown hK.1 hP 0 rfl rfl 2 (by decide) lk3 (fun _ h9 => h9) rfl dX10_keep_40 ?_
    refine lv_aload_n hx hb dX10_keep_43 rfl (lv_at hl 1 rfl) ?_
    refine va_get (D := D) (ci := 9) (v := .int v_size) (C := RX10) (T := TX10) (N := 5) hx hb hts in_y_keep_X10 hown hK.1 hP 0 rfl rfl 3 (by decide) lk0 (fun _ h9 => h9) rfl dX10_keep_44 ?_
    refine lv_iload hx hb dX10_keep_47 (lv_at hl 0 rfl) ?_
    refine lv_iconst (v := 3) hx hb dX10_keep_49 (by decide) ?_
    refine lv_icmp_ne (tgt := 62) hx hb dX10_keep_50 (by decide) (fun c_5 => ?_) (fun c_5 => ?_)
    · have tc_5 := t_neq c_5
      refine lv_iconst (v := 0) hx hb dX10_keep_62 (by decide) ?_
      refine va_iast hx hb hK.1 hP hD hS 3 0 rfl rfl (t_in (by omega) (by omega)) dX10_keep_63 (fun H locs hP hD hS => ?_)
      obtain ⟨g_6, eg_6⟩ : ∃ z : Nat → Int32, z = upd f_values ((v_size : Int32).toNatClampNeg) 0 := ⟨_, rfl⟩
      rw [← eg_6] at hP hD
      have hP : va_P D vwCl [(h, .inr (9, [.ref a_kinds, .ref a_places, .ref a_values, .int v_size, .int v_textLength])), (a_kinds, .inl (cI, 97, .inl g_3)), (a_places, .inl (cI, 97, .inl g_4)), (a_values, .inl (cI, 97, .inl g_6)), (ht, .inr (8, [.ref ta_bytes, .int tv_length])), (ta_bytes, .inl (cB, 600, .inl tf_bytes))] H := hP
      have hD := asD hP hD
      refine lv_aload_n hx hb dX10_keep_64 rfl (lv_at hl 1 rfl) ?_
      refine lv_dup hx hb dX10_keep_65 rfl ?_
      refine va_get (D := D) (ci := 9) (v := .int v_size) (C := RX10) (T := TX10) (N := 5) hx hb hts in_y_keep_X10 hown hK.1 hP 0 rfl rfl 3 (by decide) lk0 (fun _ h9 => h9) rfl dX10_keep_66 ?_
      refine lv_iconst (v := 1) hx hb dX10_keep_69 (by decide) ?_
      refine lv_iadd hx hb dX10_keep_70 ?_
      refine lv_topi (fun x_7 ex_7 => ?_)
      first | have tx_7 := t_add ex_7 (by omega) (by omega) | skip
      refine va_put (D := D) (ci := 9) (v := .int x_7) (ty := .int) (C := RX10) (T := TX10) (N := 5) hx hb hts in_y_keep_X10 tyX10 tyX10_ok nmX10 hown hK.1 hP hD hS 0 rfl rfl 3 (by decide) lk0 (fun _ h9 => h9) rfl (by decide +kernel) rfl rfl (Nat.le_of_ble_eq_true rfl) dX10_keep_71 (fun H locs hP hD hS => ?_)
      have hP : va_P D vwCl [(h, .inr (9, [.ref a_kinds, .ref a_places, .ref a_values, .int x_7, .int v_textLength])), (a_kinds, .inl (cI, 97, .inl g_3)), (a_places, .inl (cI, 97, .inl g_4)), (a_values, .inl (cI, 97, .inl g_6)), (ht, .inr (8, [.ref ta_bytes, .int tv_length])), (ta_bytes, .inl (cB, 600, .inl tf_bytes))] H := hP
      have hD := asD hP hD
      exact hret (x_7, g_3, g_4, g_6) _ _ _ _ (show 0 ≤ x_7.toInt ∧ x_7.toInt ≤ 97 from by omega) (hP.sub [0, 1, 2, 3, 4, 5] rfl) (hD.sub [0, 1, 2, 3, 4, 5] (by decide +kernel) rfl) hS dX10_keep_74
    · have tc_5 := t_eq c_5
      refine lv_aload_n hx hb dX10_keep_53 rfl (lv_at hl 2 rfl) ?_
      refine lv_iload_n hx hb dX10_keep_54 rfl (lv_at hl 3 rfl) ?_
      refine lv_iload_n hx hb dX10_keep_55 rfl (lv_at hl 4 rfl) ?_
      have hPc := hP.sub (ws' := [(ht, .inr (8, [.ref ta_bytes, .int tv_length])), (ta_bytes, .inl (cB, 600, .inl tf_bytes))]) [4, 5] rfl
      refine roS (As := [.ref ht, .int a, .int b]) (rest := [.int v_size, .ref a_values]) S (y_numberOf  (by omega) (by omega) (by omega) (by omega)) (va_cwS 3 hts gX10_keep_X10_numberOf rfl rfl rfl hd_X10_numberOf ⟨Nat.le_of_ble_eq_true rfl, Nat.le_of_ble_eq_true rfl⟩) hK hPc rfl hl.1 rfl (Nat.le_of_ble_eq_true rfl) dX10_keep_56 ⟨Nat.le_of_ble_eq_true rfl, Nat.le_of_ble_eq_true rfl⟩ (fun r_8 hw_8 => ?_)
      have hw_8 : True := hw_8
      refine lv_goto (tgt := 63) hx hb dX10_keep_59 (by decide) ?_
      refine va_iast hx hb hK.1 hP hD hS 3 0 rfl rfl (t_in (by omega) (by omega)) dX10_keep_63 (fun H locs hP hD hS => ?_)
      obtain ⟨g_9, eg_9⟩ : ∃ z : Nat → Int32, z = upd f_values ((v_size : Int32).toNatClampNeg) r_8 := ⟨_, rfl⟩
      rw [← eg_9] at hP hD
      have hP : va_P D vwCl [(h, .inr (9, [.ref a_kinds, .ref a_places, .ref a_values, .int v_size, .int v_textLength])), (a_kinds, .inl (cI, 97, .inl g_3)), (a_places, .inl (cI, 97, .inl g_4)), (a_values, .inl (cI, 97, .inl g_9)), (ht, .inr (8, [.ref ta_bytes, .int tv_length])), (ta_bytes, .inl (cB, 600, .inl tf_bytes))] H := hP
      have hD := asD hP hD
      refine lv_aload_n hx hb dX10_keep_64 rfl (lv_at hl 1 rfl) ?_
      refine lv_dup hx hb dX10_keep_65 rfl ?_
      refine va_get (D := D) (ci := 9) (v := .int v_size) (C := RX10) (T := TX10) (N := 5) hx hb hts in_y_keep_X10 hown hK.1 hP 0 rfl rfl 3 (by decide) lk0 (fun _ h9 => h9) rfl dX10_keep_66 ?_
      refine lv_iconst (v := 1) hx hb dX10_keep_69 (by decide) ?_
      refine lv_iadd hx hb dX10_keep_70 ?_
      refine lv_topi (fun x_10 ex_10 => ?_)
      first | have tx_10 := t_add ex_10 (by omega) (by omega) | skip
      refine va_put (D := D) (ci := 9) (v := .int x_10) (ty := .int) (C := RX10) (T := TX10) (N := 5) hx hb hts in_y_keep_X10 tyX10 tyX10_ok nmX10 hown hK.1 hP hD hS 0 rfl rfl 3 (by decide) lk0 (fun _ h9 => h9) rfl (by decide +kernel) rfl rfl (Nat.le_of_ble_eq_true rfl) dX10_keep_71 (fun H locs hP hD hS => ?_)
      have hP : va_P D vwCl [(h, .inr (9, [.ref a_kinds, .ref a_places, .ref a_values, .int x_10, .int v_textLength])), (a_kinds, .inl (cI, 97, .inl g_3)), (a_places, .inl (cI, 97, .inl g_4)), (a_values, .inl (cI, 97, .inl g_9)), (ht, .inr (8, [.ref ta_bytes, .int tv_length])), (ta_bytes, .inl (cB, 600, .inl tf_bytes))] H := hP
      have hD := asD hP hD
      exact hret (x_10, g_3, g_4, g_9) _ _ _ _ (show 0 ≤ x_10.toInt ∧ x_10.toInt ≤ 97 from by omega) (hP.sub [0, 1, 2, 3, 4, 5] rfl) (hD.sub [0, 1, 2, 3, 4, 5] (by decide +kernel) rfl) hS dX10_keep_74
  · have tc_1 := t_nlt c_1
    exact hret (v_size, f_kinds, f_places, f_values) _ _ _ _ (show 0 ≤ v_size.toInt ∧ v_size.toInt ≤ 97 from by omega) (hP.sub [0, 1, 2, 3, 4, 5] rfl) (hD.sub [0, 1, 2, 3, 4, 5] (by decide +kernel) rfl) hS dX10_keep_9

theorem in_y_scan_X10 : ∀ w ∈ wsX100, w ∈ wsX10_scan := tl_X10_scan_X10
set_option maxHeartbeats 8000000 in
set_option maxRecDepth 100000 in
theorem y_scan {l : Launch} {D : va_G} {cI cZ cB : ClassId} {adK adV : Nat → Nat} {sz : Nat} {h a_kinds a_places a_values ht ta_bytes : Nat} {v_size v_textLength tv_length : Int32} {f_kinds f_places f_values tf_bytes : Nat → Int32} {n : Int32} (htv_length0 : 0 ≤ tv_length.toInt) (htv_length1 : tv_length.toInt ≤ 600) (hn0 : 0 ≤ n.toInt) (hn1 : n.toInt ≤ 600) : Met l yX10_scan wsX10_scan ({ frames := 8, cells := 0, slots := 0, locals := 178 }) (RWs D cI cZ cB adK adV [.ref h, .ref ht, .int n] sz [(h, .inr (9, [.ref a_kinds, .ref a_places, .ref a_values, .int v_size, .int v_textLength])), (a_kinds, .inl (cI, 97, .inl f_kinds)), (a_places, .inl (cI, 97, .inl f_places)), (a_values, .inl (cI, 97, .inl f_values)), (ht, .inr (8, [.ref ta_bytes, .int tv_length])), (ta_bytes, .inl (cB, 600, .inl tf_bytes))]) (va_Qv (fun u : Int32 × (Nat → Int32) × (Nat → Int32) × (Nat → Int32) × Int32 => 0 ≤ u.1.toInt ∧ u.1.toInt ≤ 97) (BW D [(h, .inr (9, [.ref a_kinds, .ref a_places, .ref a_values, .int v_size, .int v_textLength])), (a_kinds, .inl (cI, 97, .inl f_kinds)), (a_places, .inl (cI, 97, .inl f_places)), (a_values, .inl (cI, 97, .inl f_values)), (ht, .inr (8, [.ref ta_bytes, .int tv_length])), (ta_bytes, .inl (cB, 600, .inl tf_bytes))] sz (fun u : Int32 × (Nat → Int32) × (Nat → Int32) × (Nat → Int32) × Int32 => [(h, .inr (9, [.ref a_kinds, .ref a_places, .ref a_values, .int u.1, .int u.2.2.2.2])), (a_kinds, .inl (cI, 97, .inl u.2.1)), (a_places, .inl (cI, 97, .inl u.2.2.1)), (a_values, .inl (cI, 97, .inl u.2.2.2.1)), (ht, .inr (8, [.ref ta_bytes, .int tv_length])), (ta_bytes, .inl (cB, 600, .inl tf_bytes))])) (va_A [(h, .inr (9, [.ref a_kinds, .ref a_places, .ref a_values, .int v_size, .int v_textLength])), (a_kinds, .inl (cI, 97, .inl f_kinds)), (a_places, .inl (cI, 97, .inl f_places)), (a_values, .inl (cI, 97, .inl f_values)), (ht, .inr (8, [.ref ta_bytes, .int tv_length])), (ta_bytes, .inl (cB, 600, .inl tf_bytes))] sz)) 0 (0) (va_A [(h, .inr (9, [.ref a_kinds, .ref a_places, .ref a_values, .int v_size, .int v_textLength])), (a_kinds, .inl (cI, 97, .inl f_kinds)), (a_places, .inl (cI, 97, .inl f_places)), (a_values, .inl (cI, 97, .inl f_values)), (ht, .inr (8, [.ref ta_bytes, .int tv_length])), (ta_bytes, .inl (cB, 600, .inl tf_bytes))] sz) := by
  refine rws_retv (cc := cX10_scan) (maxL := 5) (own := RX10) (by decide) rfl rfl (Nat.le_of_ble_eq_true rfl) ?_
  intro p e s m args below meth c Q A S hin hret hP hK hD hA hS hZ ls hl
  obtain ⟨hx, hb, hml, hown, hts⟩ := id S
  have hl : lv_has ls 5 [(0, .ref h), (1, .ref ht), (2, .int n)] := hl
  have kk0 : (0 : Int32).toInt = 0 := by decide
  have kk1 : (1 : Int32).toInt = 1 := by decide
  have kk97 : (97 : Int32).toInt = 97 := by decide
  have lk0 := hts (.fieldLink RX10 21 "AbbeyHours$Tokens" "size" "I") (mc_X10_scan_r1 _ (List.mem_of_getElem? (i := 0) rfl))
  have lk1 := hts (.fieldLink RX10 25 "AbbeyHours$Tokens" "textLength" "I") (mc_X10_scan_r1 _ (List.mem_of_getElem? (i := 1) rfl))
  have lk2 := hts (.methodLink RX10 46 Lib.Math.max.name) (mc_X10_scan_r1 _ (List.mem_of_getElem? (i := 2) rfl))
  have lk3 := hts (.static Lib.Math.max.name) (mc_X10_scan_r1 _ (List.mem_of_getElem? (i := 3) rfl))
  have lk4 := hts (.initialized "java/lang/Math") (mc_X10_scan_r1 _ (List.mem_of_getElem? (i := 4) rfl))
  have lk5 := hts (.code Lib.Math.max.name Lib.Math.max.code 2 (some .int)) (mc_X10_scan_r1 _ (List.mem_of_getElem? (i := 5) rfl))
  refine lv_aload_n hx hb dX10_scan_0 rfl (lv_at hl 0 rfl) ?_
  refine lv_iconst (v := 0) hx hb dX10_scan_1 (by decide) ?_
  refine va_put (D := D) (ci := 9) (v := .int 0) (ty := .int) (C := RX10) (T := TX10) (N := 5) hx hb hts in_y_scan_X10 tyX10 tyX10_ok nmX10 hown hK.1 hP hD hS 0 rfl rfl 3 (by decide) lk0 (fun _ h9 => h9) rfl (by decide +kernel) rfl rfl (Nat.le_of_ble_eq_true rfl) dX10_scan_2 (fun H locs hP hD hS => ?_)
  have hP : va_P D vwCl [(h, .inr (9, [.ref a_kinds, .ref a_places, .ref a_values, .int 0, .int v_textLength])), (a_kinds, .inl (cI, 97, .inl f_kinds)), (a_places, .inl (cI, 97, .inl f_places)), (a_values, .inl (cI, 97, .inl f_values)), (ht, .inr (8, [.ref ta_bytes, .int tv_length])), (ta_bytes, .inl (cB, 600, .inl tf_bytes))] H := hP
  have hD := asD hP hD
  refine lv_aload_n hx hb dX10_scan_5 rfl (lv_at hl 0 rfl) ?_
  refine lv_iload_n hx hb dX10_scan_6 rfl (lv_at hl 2 rfl) ?_
  refine va_put (D := D) (ci := 9) (v := .int n) (ty := .int) (C := RX10) (T := TX10) (N := 5) hx hb hts in_y_scan_X10 tyX10 tyX10_ok nmX10 hown hK.1 hP hD hS 0 rfl rfl 4 (by decide) lk1 (fun _ h9 => h9) rfl (by decide +kernel) rfl rfl (Nat.le_of_ble_eq_true rfl) dX10_scan_7 (fun H locs hP hD hS => ?_)
  have hP : va_P D vwCl [(h, .inr (9, [.ref a_kinds, .ref a_places, .ref a_values, .int 0, .int n])), (a_kinds, .inl (cI, 97, .inl f_kinds)), (a_places, .inl (cI, 97, .inl f_places)), (a_values, .inl (cI, 97, .inl f_values)), (ht, .inr (8, [.ref ta_bytes, .int tv_length])), (ta_bytes, .inl (cB, 600, .inl tf_bytes))] H := hP
  have hD := asD hP hD
  refine lv_iconst (v := 0) hx hb dX10_scan_10 (by decide) ?_
  refine lv_istore_n (lv' := [(3, .int 0), (0, .ref h), (1, .ref ht), (2, .int n)]) hx hb dX10_scan_11 rfl hl (by decide) rfl (fun ls hl => ?_)
  have loop12 : ∀ (fuel : Nat) (j : Int32) (sz_ : Int32) (g1 : Nat → Int32) (g2 : Nat → Int32) (g3 : Nat → Int32), n.toInt - j.toInt < (fuel : Int) → (0 ≤ j.toInt) → (j.toInt ≤ n.toInt) → (0 ≤ sz_.toInt) → (sz_.toInt ≤ 97) → ∀ (H : Heap) (locs : List Loc), va_P D vwCl [(h, .inr (9, [.ref a_kinds, .ref a_places, .ref a_values, .int sz_, .int n])), (a_kinds, .inl (cI, 97, .inl g1)), (a_places, .inl (cI, 97, .inl g2)), (a_values, .inl (cI, 97, .inl g3)), (ht, .inr (8, [.ref ta_bytes, .int tv_length])), (ta_bytes, .inl (cB, 600, .inl tf_bytes))] H → va_D A [(h, .inr (9, [.ref a_kinds, .ref a_places, .ref a_values, .int sz_, .int n])), (a_kinds, .inl (cI, 97, .inl g1)), (a_places, .inl (cI, 97, .inl g2)), (a_values, .inl (cI, 97, .inl g3)), (ht, .inr (8, [.ref ta_bytes, .int tv_length])), (ta_bytes, .inl (cB, 600, .inl tf_bytes))] → va_S A s.heap H locs → ∀ ls : Array Slot, lv_has ls 5 [(3, .int j), (0, .ref h), (1, .ref ht), (2, .int n)] → W p l e ({ frames := 8, cells := 0, slots := 0, locals := 178 } : Room) s m args below meth c H locs 0 (0) Q (F0 m 12 ls []) := by
    intro fuel
    induction fuel with
    | zero =>
      intro j sz_ g1 g2 g3 hmu hj0 hj1 hs0 hs1 H locs hP hD hS ls hl
      exfalso; omega
    | succ fuel ih12 =>
      intro j sz_ g1 g2 g3 hmu hj0 hj1 hs0 hs1 H locs hP hD hS ls hl
      refine lv_iload_n hx hb dX10_scan_12 rfl (lv_at hl 0 rfl) ?_
      refine lv_iload_n hx hb dX10_scan_13 rfl (lv_at hl 3 rfl) ?_
      refine lv_icmp_ge (tgt := 68) hx hb dX10_scan_14 (by decide) (fun c_1 => ?_) (fun c_1 => ?_)
      · have tc_1 := t_le c_1
        exact hret (sz_, g1, g2, g3, n) _ _ _ _ (show 0 ≤ sz_.toInt ∧ sz_.toInt ≤ 97 from by omega) (hP.sub [0, 1, 2, 3, 4, 5] rfl) (hD.sub [0, 1, 2, 3, 4, 5] (by decide +kernel) rfl) hS dX10_scan_68
      · have tc_1 := t_nle c_1
        refine lv_aload_n hx hb dX10_scan_17 rfl (lv_at hl 1 rfl) ?_
        refine va_get (D := D) (ci := 9) (v := .int sz_) (C := RX10) (T := TX10) (N := 5) hx hb hts in_y_scan_X10 hown hK.1 hP 0 rfl rfl 3 (by decide) lk0 (fun _ h9 => h9) rfl dX10_scan_18 ?_
        refine lv_bipush (v := 97) hx hb dX10_scan_21 (by decide) ?_
        refine lv_icmp_ge (tgt := 68) hx hb dX10_scan_23 (by decide) (fun c_2 => ?_) (fun c_2 => ?_)
        · have tc_2 := t_le c_2
          exact hret (sz_, g1, g2, g3, n) _ _ _ _ (show 0 ≤ sz_.toInt ∧ sz_.toInt ≤ 97 from by omega) (hP.sub [0, 1, 2, 3, 4, 5] rfl) (hD.sub [0, 1, 2, 3, 4, 5] (by decide +kernel) rfl) hS dX10_scan_68
        · have tc_2 := t_nle c_2
          refine lv_aload_n hx hb dX10_scan_26 rfl (lv_at hl 2 rfl) ?_
          refine lv_iload_n hx hb dX10_scan_27 rfl (lv_at hl 0 rfl) ?_
          have hPc := hP.sub (ws' := [(ht, .inr (8, [.ref ta_bytes, .int tv_length])), (ta_bytes, .inl (cB, 600, .inl tf_bytes))]) [4, 5] rfl
          refine roV (As := [.int j]) (rest := []) S (t_byteAt  (by omega) (by omega)) (cwV 1 hts gX10_scan_X9_byteAt rfl rfl rfl ⟨rfl, hd_X9_byteAt⟩ ⟨Nat.le_of_ble_eq_true rfl, Nat.le_of_ble_eq_true rfl⟩) hK hPc (va_recv hK.1 hPc (ci := 8) (q0 := 0) rfl rfl) rfl hl.1 rfl (Nat.le_of_ble_eq_true rfl) dX10_scan_28 ⟨Nat.le_of_ble_eq_true rfl, Nat.le_of_ble_eq_true rfl⟩ (fun r_3 hw_3 => ?_)
          have hw_3 : True := hw_3
          have hPc := hP.sub (ws' := []) [] rfl
          refine roS (As := [.int r_3]) (rest := []) S (y_isBlank  ) (va_cwS 1 hts gX10_scan_X10_isBlank rfl rfl rfl hd_X10_isBlank ⟨Nat.le_of_ble_eq_true rfl, Nat.le_of_ble_eq_true rfl⟩) hK hPc rfl hl.1 rfl (Nat.le_of_ble_eq_true rfl) dX10_scan_31 ⟨Nat.le_of_ble_eq_true rfl, Nat.le_of_ble_eq_true rfl⟩ (fun r_4 hw_4 => ?_)
          have hw_4 : (r_4.toInt = 0 ∨ r_4.toInt = 1) := hw_4
          refine lv_if_ne (tgt := 62) hx hb dX10_scan_34 (by decide) (fun c_5 => ?_) (fun c_5 => ?_)
          · have tc_5 := t_neq c_5
            obtain ⟨x_6, ex_6⟩ : ∃ y : Int32, y = j + 1 := ⟨_, rfl⟩
            refine lv_iinc (v := x_6) (lv' := [(3, .int x_6), (0, .ref h), (1, .ref ht), (2, .int n)]) hx hb dX10_scan_62 hl (k := 0) rfl (by rw [ex_6]; rfl) (by decide) rfl (fun ls hl => ?_)
            first | have tx_6 := t_add ex_6 (by omega) (by omega) | skip
            refine lv_goto (tgt := 12) hx hb dX10_scan_65 (by decide) ?_
            exact ih12 x_6 sz_ g1 g2 g3 (by omega) (by omega) (by omega) (by omega) (by omega) _ _ hP hD hS ls (lv_sub hl [0, 1, 2, 3] rfl)
          · have tc_5 := t_eq c_5
            refine lv_aload_n hx hb dX10_scan_37 rfl (lv_at hl 1 rfl) ?_
            refine lv_aload_n hx hb dX10_scan_38 rfl (lv_at hl 2 rfl) ?_
            refine lv_iload_n hx hb dX10_scan_39 rfl (lv_at hl 0 rfl) ?_
            have hPc := hP.sub (ws' := [(h, .inr (9, [.ref a_kinds, .ref a_places, .ref a_values, .int sz_, .int n])), (ht, .inr (8, [.ref ta_bytes, .int tv_length])), (ta_bytes, .inl (cB, 600, .inl tf_bytes))]) [0, 4, 5] rfl
            refine roV (As := [.ref ht, .int j]) (rest := []) S (y_endOf  (by omega) (by omega) (by omega) (by omega) (by omega)) (cwV 2 hts gX10_scan_X10_endOfToken rfl rfl rfl ⟨rfl, hd_X10_endOfToken⟩ ⟨Nat.le_of_ble_eq_true rfl, Nat.le_of_ble_eq_true rfl⟩) hK hPc (va_recv hK.1 hPc (ci := 9) (q0 := 0) rfl rfl) rfl hl.1 rfl (Nat.le_of_ble_eq_true rfl) dX10_scan_40 ⟨Nat.le_of_ble_eq_true rfl, Nat.le_of_ble_eq_true rfl⟩ (fun r_7 hw_7 => ?_)
            have hw_7 : j.toInt < r_7.toInt ∧ r_7.toInt ≤ n.toInt := hw_7
            refine lv_istore (lv' := [(4, .int r_7), (3, .int j), (0, .ref h), (1, .ref ht), (2, .int n)]) hx hb dX10_scan_43 hl (by decide) rfl (fun ls hl => ?_)
            refine lv_aload_n hx hb dX10_scan_45 rfl (lv_at hl 2 rfl) ?_
            refine lv_aload_n hx hb dX10_scan_46 rfl (lv_at hl 3 rfl) ?_
            refine lv_iload_n hx hb dX10_scan_47 rfl (lv_at hl 1 rfl) ?_
            refine lv_iload hx hb dX10_scan_48 (lv_at hl 0 rfl) ?_
            have hPc := hP.sub (ws' := [(h, .inr (9, [.ref a_kinds, .ref a_places, .ref a_values, .int sz_, .int n])), (a_kinds, .inl (cI, 97, .inl g1)), (a_places, .inl (cI, 97, .inl g2)), (a_values, .inl (cI, 97, .inl g3)), (ht, .inr (8, [.ref ta_bytes, .int tv_length])), (ta_bytes, .inl (cB, 600, .inl tf_bytes))]) [0, 1, 2, 3, 4, 5] rfl
            refine rwsVv (As := [.ref ht, .int j, .int r_7]) (rest := []) (wc := [(h, .inr (9, [.ref a_kinds, .ref a_places, .ref a_values, .int sz_, .int n])), (a_kinds, .inl (cI, 97, .inl g1)), (a_places, .inl (cI, 97, .inl g2)), (a_values, .inl (cI, 97, .inl g3)), (ht, .inr (8, [.ref ta_bytes, .int tv_length])), (ta_bytes, .inl (cB, 600, .inl tf_bytes))]) (wr := []) S (y_keep  (by omega) (by omega) (by omega) (by omega) (by omega) (by omega)) (cwV 3 hts gX10_scan_X10_keep rfl rfl rfl ⟨rfl, hd_X10_keep⟩ ⟨Nat.le_of_ble_eq_true rfl, Nat.le_of_ble_eq_true rfl⟩) hK (hZ.kept (fun a h1 h2 => hS.2.1 a h1 h2)) hP hD hS hA [0, 1, 2, 3, 4, 5] [] rfl rfl (by decide +kernel) (by decide +kernel) (by decide +kernel) (va_recv hK.1 hPc (ci := 9) (q0 := 0) rfl rfl) rfl hl.1 rfl (Nat.le_of_ble_eq_true rfl) dX10_scan_50 ⟨Nat.le_of_ble_eq_true rfl, Nat.le_of_ble_eq_true rfl⟩ (fun u_8 H locs hw_8 hP hD hS => ?_)
            obtain ⟨n1_8, f1_8, f2_8, f3_8⟩ := u_8
            have hw_8 : 0 ≤ n1_8.toInt ∧ n1_8.toInt ≤ 97 := hw_8
            have hP : va_P D vwCl [(h, .inr (9, [.ref a_kinds, .ref a_places, .ref a_values, .int n1_8, .int n])), (a_kinds, .inl (cI, 97, .inl f1_8)), (a_places, .inl (cI, 97, .inl f2_8)), (a_values, .inl (cI, 97, .inl f3_8)), (ht, .inr (8, [.ref ta_bytes, .int tv_length])), (ta_bytes, .inl (cB, 600, .inl tf_bytes))] H := hP
            have hD := asD hP hD
            refine lv_iload_n hx hb dX10_scan_53 rfl (lv_at hl 1 rfl) ?_
            refine lv_iload hx hb dX10_scan_54 (lv_at hl 0 rfl) ?_
            refine lv_iconst (v := 1) hx hb dX10_scan_56 (by decide) ?_
            refine lv_isub hx hb dX10_scan_57 ?_
            refine lv_topi (fun x_9 ex_9 => ?_)
            first | have tx_9 := t_sub ex_9 (by omega) (by omega) | skip
            refine va_mmax hx hb (hml.trans hl.1.symm) hown lk2 lk3 lk4 lk5 (Nat.le_of_ble_eq_true rfl) (Nat.le_of_ble_eq_true rfl) (Nat.le_of_ble_eq_true rfl) (Nat.le_of_ble_eq_true rfl) dX10_scan_58 ?_
            refine lv_topi (fun x_10 ex_10 => ?_)
            have tx_10 := t_max ex_10
            refine lv_istore_n (lv' := [(3, .int x_10), (4, .int r_7), (0, .ref h), (1, .ref ht), (2, .int n)]) hx hb dX10_scan_61 rfl hl (by decide) rfl (fun ls hl => ?_)
            obtain ⟨x_11, ex_11⟩ : ∃ y : Int32, y = x_10 + 1 := ⟨_, rfl⟩
            refine lv_iinc (v := x_11) (lv' := [(3, .int x_11), (4, .int r_7), (0, .ref h), (1, .ref ht), (2, .int n)]) hx hb dX10_scan_62 hl (k := 0) rfl (by rw [ex_11]; rfl) (by decide) rfl (fun ls hl => ?_)
            first | have tx_11 := t_add ex_11 (by omega) (by omega) | skip
            refine lv_goto (tgt := 12) hx hb dX10_scan_65 (by decide) ?_
            exact ih12 x_11 n1_8 f1_8 f2_8 f3_8 (by omega) (by omega) (by omega) (by omega) (by omega) _ _ hP hD hS ls (lv_sub hl [0, 2, 3, 4] rfl)
  exact loop12 ((n.toInt - (0 : Int32).toInt).toNat + 1) 0 0 f_kinds f_places f_values (by omega) (by omega) (by omega) (by omega) (by omega) _ _ hP hD hS ls (lv_sub hl [0, 1, 2, 3] rfl)

