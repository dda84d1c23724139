theorem in_p_kind_X10 : ∀ w ∈ wsX100, w ∈ wsX10_kind := tl_X10_kind_X10
set_option maxHeartbeats 8000000 in
set_option maxRecDepth 100000 in
theorem p_kind {l : Launch} {D : va_G} {cI cZ cB : ClassId} {h a_kinds a_places a_values : Nat} {v_size v_textLength : Int32} {f_kinds : Nat → Int32} {i : Int32} (hv_size0 : 0 ≤ v_size.toInt) (hv_size1 : v_size.toInt ≤ 97) (hi0 : 0 ≤ i.toInt) : Met l yX10_kind wsX10_kind ({ frames := 0, cells := 0, slots := 0, locals := 0 }) (RO D cI cZ cB [.ref h, .int i] [(h, .inr (9, [.ref a_kinds, .ref a_places, .ref a_values, .int v_size, .int v_textLength])), (a_kinds, .inl (cI, 97, .inl f_kinds))]) (vp_Si (fun r : Int32 => r = kC v_size f_kinds i.toNatClampNeg)) 0 0 (fun _ => False) := by
  refine ro_ret (cc := cX10_kind) (maxL := 2) (ty := .int) (own := RX10) (by decide) rfl rfl (Nat.le_of_ble_eq_true rfl) ?_
  intro p e s m args below meth c Q S hret hP hK ls hl
  obtain ⟨hx, hb, hml, hown, hts⟩ := id S
  have hl : lv_has ls 2 [(0, .ref h), (1, .int i)] := hl
  have kk0 : (0 : Int32).toInt = 0 := by decide
  have lk0 := hts (.fieldLink RX10 21 "AbbeyHours$Tokens" "size" "I") (List.mem_cons_of_mem _ (List.mem_append_left _ (List.mem_of_getElem? (i := 0) rfl)))
  have lk1 := hts (.fieldLink RX10 11 "AbbeyHours$Tokens" "kinds" "[I") (List.mem_cons_of_mem _ (List.mem_append_left _ (List.mem_of_getElem? (i := 1) rfl)))
  refine lv_iload_n hx hb dX10_kind_0 rfl (lv_at hl 1 rfl) ?_
  refine lv_if_lt (tgt := 21) hx hb dX10_kind_1 (by decide) (fun c_1 => ?_) (fun c_1 => ?_)
  · have tc_1 := t_lt c_1
    refine lv_iconst (v := 0) hx hb dX10_kind_21 (by decide) ?_
    exact hret 0 _ _ (show (0 : Int32) = kC v_size f_kinds i.toNatClampNeg from by unfold kC; have := t_cl (x := i) (by omega); first | (rw [if_pos (by omega)]; exact eyv) | rw [if_neg (by omega)]) rfl dX10_kind_22
  · have tc_1 := t_nlt c_1
    refine lv_iload_n hx hb dX10_kind_4 rfl (lv_at hl 1 rfl) ?_
    refine lv_aload_n hx hb dX10_kind_5 rfl (lv_at hl 0 rfl) ?_
    refine va_get (D := D) (ci := 9) (v := .int v_size) (C := RX10) (T := TX10) (N := 5) hx hb hts in_p_kind_X10 hown hK.1 hP 0 rfl rfl 3 (by decide) lk0 (fun _ h9 => h9) rfl dX10_kind_6 ?_
    refine lv_icmp_ge (tgt := 21) hx hb dX10_kind_9 (by decide) (fun c_2 => ?_) (fun c_2 => ?_)
    · have tc_2 := t_le c_2
      refine lv_iconst (v := 0) hx hb dX10_kind_21 (by decide) ?_
      exact hret 0 _ _ (show (0 : Int32) = kC v_size f_kinds i.toNatClampNeg from by unfold kC; have := t_cl (x := i) (by omega); first | (rw [if_pos (by omega)]; exact eyv) | rw [if_neg (by omega)]) rfl dX10_kind_22
    · have tc_2 := t_nle c_2
      refine lv_aload_n hx hb dX10_kind_12 rfl (lv_at hl 0 rfl) ?_
      refine va_get (D := D) (ci := 9) (v := .ref a_kinds) (C := RX10) (T := TX10) (N := 5) hx hb hts in_p_kind_X10 hown hK.1 hP 0 rfl rfl 0 (by decide) lk1 (fun _ h9 => h9) rfl dX10_kind_13 ?_
      refine lv_iload_n hx hb dX10_kind_16 rfl (lv_at hl 1 rfl) ?_
      refine va_iald hx hb hK.1 hP 1 0 rfl rfl (t_in (by omega) (by omega)) dX10_kind_17 ?_
      refine lv_topi (fun yv eyv => ?_)
      refine lv_goto (tgt := 22) hx hb dX10_kind_18 (by decide) ?_
      exact hret yv _ _ (show yv = kC v_size f_kinds i.toNatClampNeg from by unfold kC; have := t_cl (x := i) (by omega); first | (rw [if_pos (by omega)]; exact eyv) | rw [if_neg (by omega)]) rfl dX10_kind_22

theorem in_p_value_X10 : ∀ w ∈ wsX100, w ∈ wsX10_value := tl_X10_value_X10
set_option maxHeartbeats 8000000 in
set_option maxRecDepth 100000 in
theorem p_value {l : Launch} {D : va_G} {cI cZ cB : ClassId} {h a_kinds a_places a_values : Nat} {v_size v_textLength : Int32} {f_values : Nat → Int32} {i : Int32} (hv_size0 : 0 ≤ v_size.toInt) (hv_size1 : v_size.toInt ≤ 97) (hi0 : 0 ≤ i.toInt) : Met l yX10_value wsX10_value ({ frames := 0, cells := 0, slots := 0, locals := 0 }) (RO D cI cZ cB [.ref h, .int i] [(h, .inr (9, [.ref a_kinds, .ref a_places, .ref a_values, .int v_size, .int v_textLength])), (a_values, .inl (cI, 97, .inl f_values))]) (vp_Si (fun r : Int32 => r = kC v_size f_values i.toNatClampNeg)) 0 0 (fun _ => False) := by
  refine ro_ret (cc := cX10_value) (maxL := 2) (ty := .int) (own := RX10) (by decide) rfl rfl (Nat.le_of_ble_eq_true rfl) ?_
  intro p e s m args below meth c Q S hret hP hK ls hl
  obtain ⟨hx, hb, hml, hown, hts⟩ := id S
  have hl : lv_has ls 2 [(0, .ref h), (1, .int i)] := hl
  have kk0 : (0 : Int32).toInt = 0 := by decide
  have lk0 := hts (.fieldLink RX10 21 "AbbeyHours$Tokens" "size" "I") (List.mem_cons_of_mem _ (List.mem_append_left _ (List.mem_of_getElem? (i := 0) rfl)))
  have lk1 := hts (.fieldLink RX10 18 "AbbeyHours$Tokens" "values" "[I") (List.mem_cons_of_mem _ (List.mem_append_left _ (List.mem_of_getElem? (i := 1) rfl)))
  refine lv_iload_n hx hb dX10_value_0 rfl (lv_at hl 1 rfl) ?_
  refine lv_if_lt (tgt := 21) hx hb dX10_value_1 (by decide) (fun c_1 => ?_) (fun c_1 => ?_)
  · have tc_1 := t_lt c_1
    refine lv_iconst (v := 0) hx hb dX10_value_21 (by decide) ?_
    exact hret 0 _ _ (show (0 : Int32) = kC v_size f_values i.toNatClampNeg from by unfold kC; have := t_cl (x := i) (by omega); first | (rw [if_pos (by omega)]; exact eyv) | rw [if_neg (by omega)]) rfl dX10_value_22
  · have tc_1 := t_nlt c_1
    refine lv_iload_n hx hb dX10_value_4 rfl (lv_at hl 1 rfl) ?_
    refine lv_aload_n hx hb dX10_value_5 rfl (lv_at hl 0 rfl) ?_
    refine va_get (D := D) (ci := 9) (v := .int v_size) (C := RX10) (T := TX10) (N := 5) hx hb hts in_p_value_X10 hown hK.1 hP 0 rfl rfl 3 (by decide) lk0 (fun _ h9 => h9) rfl dX10_value_6 ?_
    refine lv_icmp_ge (tgt := 21) hx hb dX10_value_9 (by decide) (fun c_2 => ?_) (fun c_2 => ?_)
    · have tc_2 := t_le c_2
      refine lv_iconst (v := 0) hx hb dX10_value_21 (by decide) ?_
      exact hret 0 _ _ (show (0 : Int32) = kC v_size f_values i.toNatClampNeg from by unfold kC; have := t_cl (x := i) (by omega); first | (rw [if_pos (by omega)]; exact eyv) | rw [if_neg (by omega)]) rfl dX10_value_22
    · have tc_2 := t_nle c_2
      refine lv_aload_n hx hb dX10_value_12 rfl (lv_at hl 0 rfl) ?_
      refine va_get (D := D) (ci := 9) (v := .ref a_values) (C := RX10) (T := TX10) (N := 5) hx hb hts in_p_value_X10 hown hK.1 hP 0 rfl rfl 2 (by decide) lk1 (fun _ h9 => h9) rfl dX10_value_13 ?_
      refine lv_iload_n hx hb dX10_value_16 rfl (lv_at hl 1 rfl) ?_
      refine va_iald hx hb hK.1 hP 1 0 rfl rfl (t_in (by omega) (by omega)) dX10_value_17 ?_
      refine lv_topi (fun yv eyv => ?_)
      refine lv_goto (tgt := 22) hx hb dX10_value_18 (by decide) ?_
      exact hret yv _ _ (show yv = kC v_size f_values i.toNatClampNeg from by unfold kC; have := t_cl (x := i) (by omega); first | (rw [if_pos (by omega)]; exact eyv) | rw [if_neg (by omega)]) rfl dX10_value_22

theorem in_p_place_X10 : ∀ w ∈ wsX100, w ∈ wsX10_place := tl_X10_place_X10
set_option maxHeartbeats 8000000 in
set_option maxRecDepth 100000 in
theorem p_place {l : Launch} {D : va_G} {cI cZ cB : ClassId} {h a_kinds a_places a_values : Nat} {v_size v_textLength : Int32} {f_places : Nat → Int32} {i : Int32} (hv_size0 : 0 ≤ v_size.toInt) (hv_size1 : v_size.toInt ≤ 97) (hi0 : 0 ≤ i.toInt) : Met l yX10_place wsX10_place ({ frames := 0, cells := 0, slots := 0, locals := 0 }) (RO D cI cZ cB [.ref h, .int i] [(h, .inr (9, [.ref a_kinds, .ref a_places, .ref a_values, .int v_size, .int v_textLength])), (a_places, .inl (cI, 97, .inl f_places))]) (vp_Si (fun r : Int32 => r = pC v_size v_textLength f_places i.toNatClampNeg)) 0 0 (fun _ => False) := by
  refine ro_ret (cc := cX10_place) (maxL := 2) (ty := .int) (own := RX10) (by decide) rfl rfl (Nat.le_of_ble_eq_true rfl) ?_
  intro p e s m args below meth c Q S hret hP hK ls hl
  obtain ⟨hx, hb, hml, hown, hts⟩ := id S
  have hl : lv_has ls 2 [(0, .ref h), (1, .int i)] := hl
  have kk0 : (0 : Int32).toInt = 0 := by decide
  have lk0 := hts (.fieldLink RX10 25 "AbbeyHours$Tokens" "textLength" "I") (List.mem_cons_of_mem _ (List.mem_append_left _ (List.mem_of_getElem? (i := 2) rfl)))
  have lk1 := hts (.fieldLink RX10 21 "AbbeyHours$Tokens" "size" "I") (List.mem_cons_of_mem _ (List.mem_append_left _ (List.mem_of_getElem? (i := 0) rfl)))
  have lk2 := hts (.fieldLink RX10 15 "AbbeyHours$Tokens" "places" "[I") (List.mem_cons_of_mem _ (List.mem_append_left _ (List.mem_of_getElem? (i := 1) rfl)))
  refine lv_iload_n hx hb dX10_place_0 rfl (lv_at hl 1 rfl) ?_
  refine lv_if_lt (tgt := 21) hx hb dX10_place_1 (by decide) (fun c_1 => ?_) (fun c_1 => ?_)
  · have tc_1 := t_lt c_1
    refine lv_aload_n hx hb dX10_place_21 rfl (lv_at hl 0 rfl) ?_
    refine va_get (D := D) (ci := 9) (v := .int v_textLength) (C := RX10) (T := TX10) (N := 5) hx hb hts in_p_place_X10 hown hK.1 hP 0 rfl rfl 4 (by decide) lk0 (fun _ h9 => h9) rfl dX10_place_22 ?_
    exact hret v_textLength _ _ (show v_textLength = pC v_size v_textLength f_places i.toNatClampNeg from by unfold pC; have := t_cl (x := i) (by omega); first | (rw [if_pos (by omega)]; exact eyv) | rw [if_neg (by omega)]) rfl dX10_place_25
  · have tc_1 := t_nlt c_1
    refine lv_iload_n hx hb dX10_place_4 rfl (lv_at hl 1 rfl) ?_
    refine lv_aload_n hx hb dX10_place_5 rfl (lv_at hl 0 rfl) ?_
    refine va_get (D := D) (ci := 9) (v := .int v_size) (C := RX10) (T := TX10) (N := 5) hx hb hts in_p_place_X10 hown hK.1 hP 0 rfl rfl 3 (by decide) lk1 (fun _ h9 => h9) rfl dX10_place_6 ?_
    refine lv_icmp_ge (tgt := 21) hx hb dX10_place_9 (by decide) (fun c_2 => ?_) (fun c_2 => ?_)
    · have tc_2 := t_le c_2
      refine lv_aload_n hx hb dX10_place_21 rfl (lv_at hl 0 rfl) ?_
      refine va_get (D := D) (ci := 9) (v := .int v_textLength) (C := RX10) (T := TX10) (N := 5) hx hb hts in_p_place_X10 hown hK.1 hP 0 rfl rfl 4 (by decide) lk0 (fun _ h9 => h9) rfl dX10_place_22 ?_
      exact hret v_textLength _ _ (show v_textLength = pC v_size v_textLength f_places i.toNatClampNeg from by unfold pC; have := t_cl (x := i) (by omega); first | (rw [if_pos (by omega)]; exact eyv) | rw [if_neg (by omega)]) rfl dX10_place_25
    · have tc_2 := t_nle c_2
      refine lv_aload_n hx hb dX10_place_12 rfl (lv_at hl 0 rfl) ?_
      refine va_get (D := D) (ci := 9) (v := .ref a_places) (C := RX10) (T := TX10) (N := 5) hx hb hts in_p_place_X10 hown hK.1 hP 0 rfl rfl 1 (by decide) lk2 (fun _ h9 => h9) rfl dX10_place_13 ?_
      refine lv_iload_n hx hb dX10_place_16 rfl (lv_at hl 1 rfl) ?_
      refine va_iald hx hb hK.1 hP 1 0 rfl rfl (t_in (by omega) (by omega)) dX10_place_17 ?_
      refine lv_topi (fun yv eyv => ?_)
      refine lv_goto (tgt := 25) hx hb dX10_place_18 (by decide) ?_
      exact hret yv _ _ (show yv = pC v_size v_textLength f_places i.toNatClampNeg from by unfold pC; have := t_cl (x := i) (by omega); first | (rw [if_pos (by omega)]; exact eyv) | rw [if_neg (by omega)]) rfl dX10_place_25

theorem in_p_accept_X6 : ∀ w ∈ wsX60, w ∈ wsX6_accept := tl_X6_accept_X6
set_option maxHeartbeats 8000000 in
set_option maxRecDepth 100000 in
theorem p_accept {l : Launch} {D : va_G} {cI cZ cB : ClassId} {sz : Nat} {h a_tokens a_kinds a_firsts a_seconds ta_kinds ta_places ta_values : Nat} {v_size v_next v_first v_second tv_size tv_textLength : Int32} {tf_kinds : Nat → Int32} {k : Int32} (htv_size0 : 0 ≤ tv_size.toInt) (htv_size1 : tv_size.toInt ≤ 97) (hn0 : 0 ≤ v_next.toInt) (hn1 : v_next.toInt ≤ 1000) : Met l yX6_accept wsX6_accept ({ frames := 1, cells := 0, slots := 0, locals := 21 }) (RW D cI cZ cB [.ref h, .int k] sz [(h, .inr (6, [.ref a_tokens, .ref a_kinds, .ref a_firsts, .ref a_seconds, .int v_size, .int v_next, .int v_first, .int v_second])), (a_tokens, .inr (9, [.ref ta_kinds, .ref ta_places, .ref ta_values, .int tv_size, .int tv_textLength])), (ta_kinds, .inl (cI, 97, .inl tf_kinds))]) (va_Qi (fun (r : Int32) (u : Int32) => ((r.toInt = 1 ∧ kC tv_size tf_kinds v_next.toNatClampNeg = k ∧ u.toInt = v_next.toInt + 1) ∨ (r.toInt = 0 ∧ ¬ kC tv_size tf_kinds v_next.toNatClampNeg = k ∧ u = v_next))) (BW D [(h, .inr (6, [.ref a_tokens, .ref a_kinds, .ref a_firsts, .ref a_seconds, .int v_size, .int v_next, .int v_first, .int v_second])), (a_tokens, .inr (9, [.ref ta_kinds, .ref ta_places, .ref ta_values, .int tv_size, .int tv_textLength])), (ta_kinds, .inl (cI, 97, .inl tf_kinds))] sz (fun u : Int32 => [(h, .inr (6, [.ref a_tokens, .ref a_kinds, .ref a_firsts, .ref a_seconds, .int v_size, .int u, .int v_first, .int v_second])), (a_tokens, .inr (9, [.ref ta_kinds, .ref ta_places, .ref ta_values, .int tv_size, .int tv_textLength])), (ta_kinds, .inl (cI, 97, .inl tf_kinds))])) (va_A [(h, .inr (6, [.ref a_tokens, .ref a_kinds, .ref a_firsts, .ref a_seconds, .int v_size, .int v_next, .int v_first, .int v_second])), (a_tokens, .inr (9, [.ref ta_kinds, .ref ta_places, .ref ta_values, .int tv_size, .int tv_textLength])), (ta_kinds, .inl (cI, 97, .inl tf_kinds))] sz)) 0 (0) (va_A [(h, .inr (6, [.ref a_tokens, .ref a_kinds, .ref a_firsts, .ref a_seconds, .int v_size, .int v_next, .int v_first, .int v_second])), (a_tokens, .inr (9, [.ref ta_kinds, .ref ta_places, .ref ta_values, .int tv_size, .int tv_textLength])), (ta_kinds, .inl (cI, 97, .inl tf_kinds))] sz) := by
  refine rw_ret (cc := cX6_accept) (maxL := 2) (ty := .boolean) (own := RX6) (by decide) rfl rfl (Nat.le_of_ble_eq_true rfl) ?_
  intro p e s m args below meth c Q A S hin hret hP hK hD hA hS ls hl
  obtain ⟨hx, hb, hml, hown, hts⟩ := id S
  have hl : lv_has ls 2 [(0, .ref h), (1, .int k)] := hl
  have kk0 : (0 : Int32).toInt = 0 := by decide
  have kk1 : (1 : Int32).toInt = 1 := by decide
  have lk0 := hts (.fieldLink RX6 12 "AbbeyHours$RuleReader" "tokens" "LAbbeyHours$Tokens;") (List.mem_cons_of_mem _ (List.mem_append_left _ (List.mem_append_left _ (List.mem_of_getElem? (i := 0) rfl))))
  have lk1 := hts (.fieldLink RX6 32 "AbbeyHours$RuleReader" "next" "I") (List.mem_cons_of_mem _ (List.mem_append_left _ (List.mem_append_left _ (List.mem_of_getElem? (i := 1) rfl))))
  refine lv_aload_n hx hb dX6_accept_0 rfl (lv_at hl 0 rfl) ?_
  refine va_get (D := D) (ci := 6) (v := .ref a_tokens) (C := RX6) (T := TX6) (N := 8) hx hb hts in_p_accept_X6 hown hK.1 hP 0 rfl rfl 0 (by decide) lk0 (fun _ h9 => h9) rfl dX6_accept_1 ?_
  refine lv_aload_n hx hb dX6_accept_4 rfl (lv_at hl 0 rfl) ?_
  refine va_get (D := D) (ci := 6) (v := .int v_next) (C := RX6) (T := TX6) (N := 8) hx hb hts in_p_accept_X6 hown hK.1 hP 0 rfl rfl 5 (by decide) lk1 (fun _ h9 => h9) rfl dX6_accept_5 ?_
  have hPc := hP.sub (ws' := [(a_tokens, .inr (9, [.ref ta_kinds, .ref ta_places, .ref ta_values, .int tv_size, .int tv_textLength])), (ta_kinds, .inl (cI, 97, .inl tf_kinds))]) [1, 2] rfl
  refine roV (As := [.int v_next]) (rest := []) S (p_kind  (by omega) (by omega) (by omega)) (cwV 1 hts gX6_accept_X10_kind rfl rfl rfl ⟨rfl, hd_X10_kind⟩ ⟨Nat.le_of_ble_eq_true rfl, Nat.le_of_ble_eq_true rfl⟩) hK hPc (va_recv hK.1 hPc (ci := 9) (q0 := 0) rfl rfl) rfl hl.1 rfl (Nat.le_of_ble_eq_true rfl) dX6_accept_8 ⟨Nat.le_of_ble_eq_true rfl, Nat.le_of_ble_eq_true rfl⟩ (fun r_kd hw_kd => ?_)
  have hw_kd : r_kd = kC tv_size tf_kinds v_next.toNatClampNeg := hw_kd
  refine lv_iload_n hx hb dX6_accept_11 rfl (lv_at hl 1 rfl) ?_
  refine lv_icmp_eq (tgt := 17) hx hb dX6_accept_12 (by decide) (fun cc => ?_) (fun cc => ?_)
  · have tcc := t_eq cc
    refine lv_aload_n hx hb dX6_accept_17 rfl (lv_at hl 0 rfl) ?_
    refine lv_dup hx hb dX6_accept_18 rfl ?_
    refine va_get (D := D) (ci := 6) (v := .int v_next) (C := RX6) (T := TX6) (N := 8) hx hb hts in_p_accept_X6 hown hK.1 hP 0 rfl rfl 5 (by decide) lk1 (fun _ h9 => h9) rfl dX6_accept_19 ?_
    refine lv_iconst (v := 1) hx hb dX6_accept_22 (by decide) ?_
    refine lv_iadd hx hb dX6_accept_23 ?_
    refine lv_topi (fun x_2 ex_2 => ?_)
    first | have tx_2 := t_add ex_2 (by omega) (by omega) | skip
    refine va_put (D := D) (ci := 6) (v := .int x_2) (ty := .int) (C := RX6) (T := TX6) (N := 8) hx hb hts in_p_accept_X6 tyX6 tyX6_ok nmX6 hown hK.1 hP hD hS 0 rfl rfl 5 (by decide) lk1 (fun _ h9 => h9) rfl (by decide +kernel) rfl rfl (Nat.le_of_ble_eq_true rfl) dX6_accept_24 (fun H locs hP hD hS => ?_)
    have hP : va_P D vwCl [(h, .inr (6, [.ref a_tokens, .ref a_kinds, .ref a_firsts, .ref a_seconds, .int v_size, .int x_2, .int v_first, .int v_second])), (a_tokens, .inr (9, [.ref ta_kinds, .ref ta_places, .ref ta_values, .int tv_size, .int tv_textLength])), (ta_kinds, .inl (cI, 97, .inl tf_kinds))] H := hP
    have hD := asD hP hD
    refine lv_iconst (v := 1) hx hb dX6_accept_27 (by decide) ?_
    exact hret 1 x_2 _ _ _ _ (show (((1 : Int32).toInt = 1 ∧ kC tv_size tf_kinds v_next.toNatClampNeg = k ∧ x_2.toInt = v_next.toInt + 1) ∨ ((1 : Int32).toInt = 0 ∧ ¬ kC tv_size tf_kinds v_next.toNatClampNeg = k ∧ x_2 = v_next)) from by first | exact Or.inl ⟨by omega, by rw [← hw_kd]; exact cc, by omega⟩ | exact Or.inr ⟨by omega, by rw [← hw_kd]; exact cc, rfl⟩) rfl (hP.sub [0, 1, 2] rfl) (hD.sub [0, 1, 2] (by decide +kernel) rfl) hS dX6_accept_28
  · have tcc := t_neq cc
    refine lv_iconst (v := 0) hx hb dX6_accept_15 (by decide) ?_
    exact hret 0 v_next _ _ _ _ (show (((0 : Int32).toInt = 1 ∧ kC tv_size tf_kinds v_next.toNatClampNeg = k ∧ v_next.toInt = v_next.toInt + 1) ∨ ((0 : Int32).toInt = 0 ∧ ¬ kC tv_size tf_kinds v_next.toNatClampNeg = k ∧ v_next = v_next)) from by first | exact Or.inl ⟨by omega, by rw [← hw_kd]; exact cc, by omega⟩ | exact Or.inr ⟨by omega, by rw [← hw_kd]; exact cc, rfl⟩) rfl (hP.sub [0, 1, 2] rfl) (hD.sub [0, 1, 2] (by decide +kernel) rfl) hS dX6_accept_16

theorem in_p_first_X6 : ∀ w ∈ wsX60, w ∈ wsX6_acceptFirst := tl_X6_acceptFirst_X6
set_option maxHeartbeats 8000000 in
set_option maxRecDepth 100000 in
theorem p_first {l : Launch} {D : va_G} {cI cZ cB : ClassId} {sz : Nat} {h a_tokens a_kinds a_firsts a_seconds ta_kinds ta_places ta_values : Nat} {v_size v_next v_first v_second tv_size tv_textLength : Int32} {tf_kinds tf_values : Nat → Int32}  (htv_size0 : 0 ≤ tv_size.toInt) (htv_size1 : tv_size.toInt ≤ 97) (hn0 : 0 ≤ v_next.toInt) (hn1 : v_next.toInt ≤ 1000) : Met l yX6_acceptFirst wsX6_acceptFirst ({ frames := 2, cells := 0, slots := 0, locals := 42 }) (RW D cI cZ cB [.ref h] sz [(h, .inr (6, [.ref a_tokens, .ref a_kinds, .ref a_firsts, .ref a_seconds, .int v_size, .int v_next, .int v_first, .int v_second])), (a_tokens, .inr (9, [.ref ta_kinds, .ref ta_places, .ref ta_values, .int tv_size, .int tv_textLength])), (ta_kinds, .inl (cI, 97, .inl tf_kinds)), (ta_values, .inl (cI, 97, .inl tf_values))]) (va_Qi (fun (r : Int32) (u : Int32 × Int32) => ((r.toInt = 1 ∧ kC tv_size tf_kinds v_next.toNatClampNeg = 3 ∧ u.1.toInt = v_next.toInt + 1) ∨ (r.toInt = 0 ∧ ¬ kC tv_size tf_kinds v_next.toNatClampNeg = 3 ∧ u.1 = v_next)) ∧ u.2 = kC tv_size tf_values v_next.toNatClampNeg) (BW D [(h, .inr (6, [.ref a_tokens, .ref a_kinds, .ref a_firsts, .ref a_seconds, .int v_size, .int v_next, .int v_first, .int v_second])), (a_tokens, .inr (9, [.ref ta_kinds, .ref ta_places, .ref ta_values, .int tv_size, .int tv_textLength])), (ta_kinds, .inl (cI, 97, .inl tf_kinds)), (ta_values, .inl (cI, 97, .inl tf_values))] sz (fun u : Int32 × Int32 => [(h, .inr (6, [.ref a_tokens, .ref a_kinds, .ref a_firsts, .ref a_seconds, .int v_size, .int u.1, .int u.2, .int v_second])), (a_tokens, .inr (9, [.ref ta_kinds, .ref ta_places, .ref ta_values, .int tv_size, .int tv_textLength])), (ta_kinds, .inl (cI, 97, .inl tf_kinds)), (ta_values, .inl (cI, 97, .inl tf_values))])) (va_A [(h, .inr (6, [.ref a_tokens, .ref a_kinds, .ref a_firsts, .ref a_seconds, .int v_size, .int v_next, .int v_first, .int v_second])), (a_tokens, .inr (9, [.ref ta_kinds, .ref ta_places, .ref ta_values, .int tv_size, .int tv_textLength])), (ta_kinds, .inl (cI, 97, .inl tf_kinds)), (ta_values, .inl (cI, 97, .inl tf_values))] sz)) 0 (0) (va_A [(h, .inr (6, [.ref a_tokens, .ref a_kinds, .ref a_firsts, .ref a_seconds, .int v_size, .int v_next, .int v_first, .int v_second])), (a_tokens, .inr (9, [.ref ta_kinds, .ref ta_places, .ref ta_values, .int tv_size, .int tv_textLength])), (ta_kinds, .inl (cI, 97, .inl tf_kinds)), (ta_values, .inl (cI, 97, .inl tf_values))] sz) := by
  refine rw_ret (cc := cX6_acceptFirst) (maxL := 1) (ty := .boolean) (own := RX6) (by decide) rfl rfl (Nat.le_of_ble_eq_true rfl) ?_
  intro p e s m args below meth c Q A S hin hret hP hK hD hA hS ls hl
  obtain ⟨hx, hb, hml, hown, hts⟩ := id S
  have hl : lv_has ls 1 [(0, .ref h)] := hl
  have kk0 : (0 : Int32).toInt = 0 := by decide
  have kk3 : (3 : Int32).toInt = 3 := by decide
  have lk0 := hts (.fieldLink RX6 12 "AbbeyHours$RuleReader" "tokens" "LAbbeyHours$Tokens;") (List.mem_cons_of_mem _ (List.mem_append_left _ (List.mem_append_left _ (List.mem_of_getElem? (i := 0) rfl))))
  have lk1 := hts (.fieldLink RX6 32 "AbbeyHours$RuleReader" "next" "I") (List.mem_cons_of_mem _ (List.mem_append_left _ (List.mem_append_left _ (List.mem_of_getElem? (i := 1) rfl))))
  have lk2 := hts (.fieldLink RX6 50 "AbbeyHours$RuleReader" "first" "I") (List.mem_cons_of_mem _ (List.mem_append_left _ (List.mem_append_left _ (List.mem_of_getElem? (i := 2) rfl))))
  refine lv_aload_n hx hb dX6_acceptFirst_0 rfl (lv_at hl 0 rfl) ?_
  refine lv_aload_n hx hb dX6_acceptFirst_1 rfl (lv_at hl 0 rfl) ?_
  refine va_get (D := D) (ci := 6) (v := .ref a_tokens) (C := RX6) (T := TX6) (N := 8) hx hb hts in_p_first_X6 hown hK.1 hP 0 rfl rfl 0 (by decide) lk0 (fun _ h9 => h9) rfl dX6_acceptFirst_2 ?_
  refine lv_aload_n hx hb dX6_acceptFirst_5 rfl (lv_at hl 0 rfl) ?_
  refine va_get (D := D) (ci := 6) (v := .int v_next) (C := RX6) (T := TX6) (N := 8) hx hb hts in_p_first_X6 hown hK.1 hP 0 rfl rfl 5 (by decide) lk1 (fun _ h9 => h9) rfl dX6_acceptFirst_6 ?_
  have hPc := hP.sub (ws' := [(a_tokens, .inr (9, [.ref ta_kinds, .ref ta_places, .ref ta_values, .int tv_size, .int tv_textLength])), (ta_values, .inl (cI, 97, .inl tf_values))]) [1, 3] rfl
  refine roV (As := [.int v_next]) (rest := [.ref h]) S (p_value  (by omega) (by omega) (by omega)) (cwV 1 hts gX6_acceptFirst_X10_value rfl rfl rfl ⟨rfl, hd_X10_value⟩ ⟨Nat.le_of_ble_eq_true rfl, Nat.le_of_ble_eq_true rfl⟩) hK hPc (va_recv hK.1 hPc (ci := 9) (q0 := 0) rfl rfl) rfl hl.1 rfl (Nat.le_of_ble_eq_true rfl) dX6_acceptFirst_9 ⟨Nat.le_of_ble_eq_true rfl, Nat.le_of_ble_eq_true rfl⟩ (fun r_va hw_va => ?_)
  have hw_va : r_va = kC tv_size tf_values v_next.toNatClampNeg := hw_va
  refine va_put (D := D) (ci := 6) (v := .int r_va) (ty := .int) (C := RX6) (T := TX6) (N := 8) hx hb hts in_p_first_X6 tyX6 tyX6_ok nmX6 hown hK.1 hP hD hS 0 rfl rfl 6 (by decide) lk2 (fun _ h9 => h9) rfl (by decide +kernel) rfl rfl (Nat.le_of_ble_eq_true rfl) dX6_acceptFirst_12 (fun H locs hP hD hS => ?_)
  have hP : va_P D vwCl [(h, .inr (6, [.ref a_tokens, .ref a_kinds, .ref a_firsts, .ref a_seconds, .int v_size, .int v_next, .int r_va, .int v_second])), (a_tokens, .inr (9, [.ref ta_kinds, .ref ta_places, .ref ta_values, .int tv_size, .int tv_textLength])), (ta_kinds, .inl (cI, 97, .inl tf_kinds)), (ta_values, .inl (cI, 97, .inl tf_values))] H := hP
  have hD := asD hP hD
  refine lv_aload_n hx hb dX6_acceptFirst_15 rfl (lv_at hl 0 rfl) ?_
  refine lv_iconst (v := 3) hx hb dX6_acceptFirst_16 (by decide) ?_
  have hPc := hP.sub (ws' := [(h, .inr (6, [.ref a_tokens, .ref a_kinds, .ref a_firsts, .ref a_seconds, .int v_size, .int v_next, .int r_va, .int v_second])), (a_tokens, .inr (9, [.ref ta_kinds, .ref ta_places, .ref ta_values, .int tv_size, .int tv_textLength])), (ta_kinds, .inl (cI, 97, .inl tf_kinds))]) [0, 1, 2] rfl
  refine rwV (As := [.int 3]) (rest := []) (wc := [(h, .inr (6, [.ref a_tokens, .ref a_kinds, .ref a_firsts, .ref a_seconds, .int v_size, .int v_next, .int r_va, .int v_second])), (a_tokens, .inr (9, [.ref ta_kinds, .ref ta_places, .ref ta_values, .int tv_size, .int tv_textLength])), (ta_kinds, .inl (cI, 97, .inl tf_kinds))]) (wr := [(ta_values, .inl (cI, 97, .inl tf_values))]) S (p_accept  (by omega) (by omega) (by omega) (by omega)) (cwV 1 hts gX6_acceptFirst_X6_accept rfl rfl rfl ⟨rfl, hd_X6_accept⟩ ⟨Nat.le_of_ble_eq_true rfl, Nat.le_of_ble_eq_true rfl⟩) hK hP hD hS hA [0, 1, 2] [3] rfl rfl (by decide +kernel) (by decide +kernel) (by decide +kernel) (va_recv hK.1 hPc (ci := 6) (q0 := 0) rfl rfl) rfl hl.1 rfl (Nat.le_of_ble_eq_true rfl) dX6_acceptFirst_17 ⟨Nat.le_of_ble_eq_true rfl, Nat.le_of_ble_eq_true rfl⟩ (fun r_ac u_ac H locs hw_ac hP hD hS => ?_)
  obtain ⟨n1_ac, rfl⟩ : ∃ z, z = u_ac := ⟨_, rfl⟩
  have hw_ac : ((r_ac.toInt = 1 ∧ kC tv_size tf_kinds v_next.toNatClampNeg = (3 : Int32) ∧ n1_ac.toInt = v_next.toInt + 1) ∨ (r_ac.toInt = 0 ∧ ¬ kC tv_size tf_kinds v_next.toNatClampNeg = (3 : Int32) ∧ n1_ac = v_next)) := hw_ac
  have hP : va_P D vwCl [(ta_values, .inl (cI, 97, .inl tf_values)), (h, .inr (6, [.ref a_tokens, .ref a_kinds, .ref a_firsts, .ref a_seconds, .int v_size, .int n1_ac, .int r_va, .int v_second])), (a_tokens, .inr (9, [.ref ta_kinds, .ref ta_places, .ref ta_values, .int tv_size, .int tv_textLength])), (ta_kinds, .inl (cI, 97, .inl tf_kinds))] H := hP
  have hD := asD hP hD
  exact hret r_ac (n1_ac, r_va) _ _ _ _ (show ((r_ac.toInt = 1 ∧ kC tv_size tf_kinds v_next.toNatClampNeg = 3 ∧ n1_ac.toInt = v_next.toInt + 1) ∨ (r_ac.toInt = 0 ∧ ¬ kC tv_size tf_kinds v_next.toNatClampNeg = 3 ∧ n1_ac = v_next)) ∧ r_va = kC tv_size tf_values v_next.toNatClampNeg from ⟨hw_ac, hw_va⟩) (zb (by omega)) (hP.sub [1, 2, 3, 0] rfl) (hD.sub [1, 2, 3, 0] (by decide +kernel) rfl) hS dX6_acceptFirst_20

theorem in_p_second_X6 : ∀ w ∈ wsX60, w ∈ wsX6_acceptSecond := tl_X6_acceptSecond_X6
set_option maxHeartbeats 8000000 in
set_option maxRecDepth 100000 in
theorem p_second {l : Launch} {D : va_G} {cI cZ cB : ClassId} {sz : Nat} {h a_tokens a_kinds a_firsts a_seconds ta_kinds ta_places ta_values : Nat} {v_size v_next v_first v_second tv_size tv_textLength : Int32} {tf_kinds tf_values : Nat → Int32}  (htv_size0 : 0 ≤ tv_size.toInt) (htv_size1 : tv_size.toInt ≤ 97) (hn0 : 0 ≤ v_next.toInt) (hn1 : v_next.toInt ≤ 1000) : Met l yX6_acceptSecond wsX6_acceptSecond ({ frames := 2, cells := 0, slots := 0, locals := 42 }) (RW D cI cZ cB [.ref h] sz [(h, .inr (6, [.ref a_tokens, .ref a_kinds, .ref a_firsts, .ref a_seconds, .int v_size, .int v_next, .int v_first, .int v_second])), (a_tokens, .inr (9, [.ref ta_kinds, .ref ta_places, .ref ta_values, .int tv_size, .int tv_textLength])), (ta_kinds, .inl (cI, 97, .inl tf_kinds)), (ta_values, .inl (cI, 97, .inl tf_values))]) (va_Qi (fun (r : Int32) (u : Int32 × Int32) => ((r.toInt = 1 ∧ kC tv_size tf_kinds v_next.toNatClampNeg = 3 ∧ u.1.toInt = v_next.toInt + 1) ∨ (r.toInt = 0 ∧ ¬ kC tv_size tf_kinds v_next.toNatClampNeg = 3 ∧ u.1 = v_next)) ∧ u.2 = kC tv_size tf_values v_next.toNatClampNeg) (BW D [(h, .inr (6, [.ref a_tokens, .ref a_kinds, .ref a_firsts, .ref a_seconds, .int v_size, .int v_next, .int v_first, .int v_second])), (a_tokens, .inr (9, [.ref ta_kinds, .ref ta_places, .ref ta_values, .int tv_size, .int tv_textLength])), (ta_kinds, .inl (cI, 97, .inl tf_kinds)), (ta_values, .inl (cI, 97, .inl tf_values))] sz (fun u : Int32 × Int32 => [(h, .inr (6, [.ref a_tokens, .ref a_kinds, .ref a_firsts, .ref a_seconds, .int v_size, .int u.1, .int v_first, .int u.2])), (a_tokens, .inr (9, [.ref ta_kinds, .ref ta_places, .ref ta_values, .int tv_size, .int tv_textLength])), (ta_kinds, .inl (cI, 97, .inl tf_kinds)), (ta_values, .inl (cI, 97, .inl tf_values))])) (va_A [(h, .inr (6, [.ref a_tokens, .ref a_kinds, .ref a_firsts, .ref a_seconds, .int v_size, .int v_next, .int v_first, .int v_second])), (a_tokens, .inr (9, [.ref ta_kinds, .ref ta_places, .ref ta_values, .int tv_size, .int tv_textLength])), (ta_kinds, .inl (cI, 97, .inl tf_kinds)), (ta_values, .inl (cI, 97, .inl tf_values))] sz)) 0 (0) (va_A [(h, .inr (6, [.ref a_tokens, .ref a_kinds, .ref a_firsts, .ref a_seconds, .int v_size, .int v_next, .int v_first, .int v_second])), (a_tokens, .inr (9, [.ref ta_kinds, .ref ta_places, .ref ta_values, .int tv_size, .int tv_textLength])), (ta_kinds, .inl (cI, 97, .inl tf_kinds)), (ta_values, .inl (cI, 97, .inl tf_values))] sz) := by
  refine rw_ret (cc := cX6_acceptSecond) (maxL := 1) (ty := .boolean) (own := RX6) (by decide) rfl rfl (Nat.le_of_ble_eq_true rfl) ?_
  intro p e s m args below meth c Q A S hin hret hP hK hD hA hS ls hl
  obtain ⟨hx, hb, hml, hown, hts⟩ := id S
  have hl : lv_has ls 1 [(0, .ref h)] := hl
  have kk0 : (0 : Int32).toInt = 0 := by decide
  have kk3 : (3 : Int32).toInt = 3 := by decide
  have lk0 := hts (.fieldLink RX6 12 "AbbeyHours$RuleReader" "tokens" "LAbbeyHours$Tokens;") (List.mem_cons_of_mem _ (List.mem_append_left _ (List.mem_append_left _ (List.mem_of_getElem? (i := 0) rfl))))
  have lk1 := hts (.fieldLink RX6 32 "AbbeyHours$RuleReader" "next" "I") (List.mem_cons_of_mem _ (List.mem_append_left _ (List.mem_append_left _ (List.mem_of_getElem? (i := 1) rfl))))
  have lk2 := hts (.fieldLink RX6 53 "AbbeyHours$RuleReader" "second" "I") (List.mem_cons_of_mem _ (List.mem_append_left _ (List.mem_append_left _ (List.mem_of_getElem? (i := 2) rfl))))
  refine lv_aload_n hx hb dX6_acceptSecond_0 rfl (lv_at hl 0 rfl) ?_
  refine lv_aload_n hx hb dX6_acceptSecond_1 rfl (lv_at hl 0 rfl) ?_
  refine va_get (D := D) (ci := 6) (v := .ref a_tokens) (C := RX6) (T := TX6) (N := 8) hx hb hts in_p_second_X6 hown hK.1 hP 0 rfl rfl 0 (by decide) lk0 (fun _ h9 => h9) rfl dX6_acceptSecond_2 ?_
  refine lv_aload_n hx hb dX6_acceptSecond_5 rfl (lv_at hl 0 rfl) ?_
  refine va_get (D := D) (ci := 6) (v := .int v_next) (C := RX6) (T := TX6) (N := 8) hx hb hts in_p_second_X6 hown hK.1 hP 0 rfl rfl 5 (by decide) lk1 (fun _ h9 => h9) rfl dX6_acceptSecond_6 ?_
  have hPc := hP.sub (ws' := [(a_tokens, .inr (9, [.ref ta_kinds, .ref ta_places, .ref ta_values, .int tv_size, .int tv_textLength])), (ta_values, .inl (cI, 97, .inl tf_values))]) [1, 3] rfl
  refine roV (As := [.int v_next]) (rest := [.ref h]) S (p_value  (by omega) (by omega) (by omega)) (cwV 1 hts gX6_acceptSecond_X10_value rfl rfl rfl ⟨rfl, hd_X10_value⟩ ⟨Nat.le_of_ble_eq_true rfl, Nat.le_of_ble_eq_true rfl⟩) hK hPc (va_recv hK.1 hPc (ci := 9) (q0 := 0) rfl rfl) rfl hl.1 rfl (Nat.le_of_ble_eq_true rfl) dX6_acceptSecond_9 ⟨Nat.le_of_ble_eq_true rfl, Nat.le_of_ble_eq_true rfl⟩ (fun r_va hw_va => ?_)
  have hw_va : r_va = kC tv_size tf_values v_next.toNatClampNeg := hw_va
  refine va_put (D := D) (ci := 6) (v := .int r_va) (ty := .int) (C := RX6) (T := TX6) (N := 8) hx hb hts in_p_second_X6 tyX6 tyX6_ok nmX6 hown hK.1 hP hD hS 0 rfl rfl 7 (by decide) lk2 (fun _ h9 => h9) rfl (by decide +kernel) rfl rfl (Nat.le_of_ble_eq_true rfl) dX6_acceptSecond_12 (fun H locs hP hD hS => ?_)
  have hP : va_P D vwCl [(h, .inr (6, [.ref a_tokens, .ref a_kinds, .ref a_firsts, .ref a_seconds, .int v_size, .int v_next, .int v_first, .int r_va])), (a_tokens, .inr (9, [.ref ta_kinds, .ref ta_places, .ref ta_values, .int tv_size, .int tv_textLength])), (ta_kinds, .inl (cI, 97, .inl tf_kinds)), (ta_values, .inl (cI, 97, .inl tf_values))] H := hP
  have hD := asD hP hD
  refine lv_aload_n hx hb dX6_acceptSecond_15 rfl (lv_at hl 0 rfl) ?_
  refine lv_iconst (v := 3) hx hb dX6_acceptSecond_16 (by decide) ?_
  have hPc := hP.sub (ws' := [(h, .inr (6, [.ref a_tokens, .ref a_kinds, .ref a_firsts, .ref a_seconds, .int v_size, .int v_next, .int v_first, .int r_va])), (a_tokens, .inr (9, [.ref ta_kinds, .ref ta_places, .ref ta_values, .int tv_size, .int tv_textLength])), (ta_kinds, .inl (cI, 97, .inl tf_kinds))]) [0, 1, 2] rfl
  refine rwV (As := [.int 3]) (rest := []) (wc := [(h, .inr (6, [.ref a_tokens, .ref a_kinds, .ref a_firsts, .ref a_seconds, .int v_size, .int v_next, .int v_first, .int r_va])), (a_tokens, .inr (9, [.ref ta_kinds, .ref ta_places, .ref ta_values, .int tv_size, .int tv_textLength])), (ta_kinds, .inl (cI, 97, .inl tf_kinds))]) (wr := [(ta_values, .inl (cI, 97, .inl tf_values))]) S (p_accept  (by omega) (by omega) (by omega) (by omega)) (cwV 1 hts gX6_acceptSecond_X6_accept rfl rfl rfl ⟨rfl, hd_X6_accept⟩ ⟨Nat.le_of_ble_eq_true rfl, Nat.le_of_ble_eq_true rfl⟩) hK hP hD hS hA [0, 1, 2] [3] rfl rfl (by decide +kernel) (by decide +kernel) (by decide +kernel) (va_recv hK.1 hPc (ci := 6) (q0 := 0) rfl rfl) rfl hl.1 rfl (Nat.le_of_ble_eq_true rfl) dX6_acceptSecond_17 ⟨Nat.le_of_ble_eq_true rfl, Nat.le_of_ble_eq_true rfl⟩ (fun r_ac u_ac H locs hw_ac hP hD hS => ?_)
  obtain ⟨n1_ac, rfl⟩ : ∃ z, z = u_ac := ⟨_, rfl⟩
  have hw_ac : ((r_ac.toInt = 1 ∧ kC tv_size tf_kinds v_next.toNatClampNeg = (3 : Int32) ∧ n1_ac.toInt = v_next.toInt + 1) ∨ (r_ac.toInt = 0 ∧ ¬ kC tv_size tf_kinds v_next.toNatClampNeg = (3 : Int32) ∧ n1_ac = v_next)) := hw_ac
  have hP : va_P D vwCl [(ta_values, .inl (cI, 97, .inl tf_values)), (h, .inr (6, [.ref a_tokens, .ref a_kinds, .ref a_firsts, .ref a_seconds, .int v_size, .int n1_ac, .int v_first, .int r_va])), (a_tokens, .inr (9, [.ref ta_kinds, .ref ta_places, .ref ta_values, .int tv_size, .int tv_textLength])), (ta_kinds, .inl (cI, 97, .inl tf_kinds))] H := hP
  have hD := asD hP hD
  exact hret r_ac (n1_ac, r_va) _ _ _ _ (show ((r_ac.toInt = 1 ∧ kC tv_size tf_kinds v_next.toNatClampNeg = 3 ∧ n1_ac.toInt = v_next.toInt + 1) ∨ (r_ac.toInt = 0 ∧ ¬ kC tv_size tf_kinds v_next.toNatClampNeg = 3 ∧ n1_ac = v_next)) ∧ r_va = kC tv_size tf_values v_next.toNatClampNeg from ⟨hw_ac, hw_va⟩) (zb (by omega)) (hP.sub [1, 2, 3, 0] rfl) (hD.sub [1, 2, 3, 0] (by decide +kernel) rfl) hS dX6_acceptSecond_20

