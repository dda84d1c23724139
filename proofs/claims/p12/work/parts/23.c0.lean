theorem in_v_at_X1 : ∀ w ∈ wsX10, w ∈ wsX1_at := tl_X1_at_X1
set_option maxHeartbeats 8000000 in
set_option maxRecDepth 100000 in
theorem v_at {l : Launch} {D : va_G} {cI cZ cB : ClassId} {h ac L : Nat} {fc : Nat → Int32} {d k : Int32} (hL : L < 65536) (hr : InR fc L (-1) 24) : Met l yX1_at wsX1_at ({ frames := 1, cells := 0, slots := 0, locals := 22 }) (RO D cI cZ cB [.ref h, .int d, .int k] [(h, .inr (1, [.int 4, .ref ac])), (ac, .inl (cI, L, .inl fc))]) (vp_Si (fun r : Int32 => -1 ≤ r.toInt ∧ r.toInt < 24)) 0 0 (fun _ => False) := by
  refine ro_ret (cc := cX1_at) (maxL := 3) (ty := .int) (own := RX1) (by decide) rfl rfl (Nat.le_of_ble_eq_true rfl) ?_
  intro p e s m args below meth c Q S hret hP hK ls hl
  obtain ⟨hx, hb, hml, hown, hts⟩ := id S
  have hl : lv_has ls 3 [(0, .ref h), (1, .int d), (2, .int k)] := hl
  have kkm1 : (-1 : Int32).toInt = -1 := by decide
  have kk0 : (0 : Int32).toInt = 0 := by decide
  have kk4 : (4 : Int32).toInt = 4 := by decide
  have lk0 := hts (.fieldLink RX1 15 "AbbeyHours$DayTable" "width" "I") (List.mem_cons_of_mem _ (List.mem_append_left _ (List.mem_of_getElem? (i := 0) rfl)))
  have lk1 := hts (.fieldLink RX1 21 "AbbeyHours$DayTable" "cells" "[I") (List.mem_cons_of_mem _ (List.mem_append_left _ (List.mem_of_getElem? (i := 1) rfl)))
  refine lv_aload_n hx hb dX1_at_0 rfl (lv_at hl 0 rfl) ?_
  refine lv_iload_n hx hb dX1_at_1 rfl (lv_at hl 1 rfl) ?_
  refine lv_iload_n hx hb dX1_at_2 rfl (lv_at hl 2 rfl) ?_
  have hPc := hP.sub (ws' := [(h, .inr (1, [.int 4, .ref ac]))]) [0] rfl
  refine roV (As := [.int d, .int k]) (rest := []) S (d4_isCell  ) (cwV 2 hts gX1_at_X1_isCell rfl rfl rfl ⟨rfl, hd_X1_isCell⟩ ⟨Nat.le_of_ble_eq_true rfl, Nat.le_of_ble_eq_true rfl⟩) hK hPc (va_recv hK.1 hPc (ci := 1) (q0 := 0) rfl rfl) rfl hl.1 rfl (Nat.le_of_ble_eq_true rfl) dX1_at_3 ⟨Nat.le_of_ble_eq_true rfl, Nat.le_of_ble_eq_true rfl⟩ (fun r_1 hw_1 => ?_)
  have hw_1 : (r_1.toInt = 1 ∧ 0 ≤ d.toInt ∧ d.toInt < 1095 ∧ 0 ≤ k.toInt ∧ k.toInt < 4) ∨ (r_1.toInt = 0 ∧ (d.toInt < 0 ∨ 1095 ≤ d.toInt ∨ k.toInt < 0 ∨ 4 ≤ k.toInt)) := hw_1
  refine lv_if_eq (tgt := 41) hx hb dX1_at_6 (by decide) (fun c_2 => ?_) (fun c_2 => ?_)
  · have tc_2 := t_eq c_2
    refine lv_iconst (v := (-1)) hx hb dX1_at_41 (by decide) ?_
    exact hret (-1) _ _ (show -1 ≤ (-1 : Int32).toInt ∧ (-1 : Int32).toInt < 24 from by omega) rfl dX1_at_42
  · have tc_2 := t_neq c_2
    refine lv_iload_n hx hb dX1_at_9 rfl (lv_at hl 1 rfl) ?_
    refine lv_aload_n hx hb dX1_at_10 rfl (lv_at hl 0 rfl) ?_
    refine va_get (D := D) (ci := 1) (v := .int 4) (C := RX1) (T := TX1) (N := 2) hx hb hts in_v_at_X1 hown hK.1 hP 0 rfl rfl 0 (by decide) lk0 (fun _ h9 => h9) rfl dX1_at_11 ?_
    refine lv_imul hx hb dX1_at_14 ?_
    refine lv_topi (fun x_3 ex_3 => ?_)
    first | have tx_3 := t_mulK kk4 ex_3 (by omega) (by omega) | skip
    refine lv_iload_n hx hb dX1_at_15 rfl (lv_at hl 2 rfl) ?_
    refine lv_iadd hx hb dX1_at_16 ?_
    refine lv_topi (fun x_4 ex_4 => ?_)
    first | have tx_4 := t_add ex_4 (by omega) (by omega) | skip
    refine lv_aload_n hx hb dX1_at_17 rfl (lv_at hl 0 rfl) ?_
    refine va_get (D := D) (ci := 1) (v := .ref ac) (C := RX1) (T := TX1) (N := 2) hx hb hts in_v_at_X1 hown hK.1 hP 0 rfl rfl 1 (by decide) lk1 (fun _ h9 => h9) rfl dX1_at_18 ?_
    refine va_alen hx hb hK.1 hP 1 0 rfl rfl rfl dX1_at_21 ?_
    refine lv_topi (fun x_5 ex_5 => ?_)
    have tx_5 : x_5.toInt = L := by rw [ex_5]; exact nI_toInt (by omega)
    refine lv_icmp_ge (tgt := 41) hx hb dX1_at_22 (by decide) (fun c_6 => ?_) (fun c_6 => ?_)
    · have tc_6 := t_le c_6
      refine lv_iconst (v := (-1)) hx hb dX1_at_41 (by decide) ?_
      exact hret (-1) _ _ (show -1 ≤ (-1 : Int32).toInt ∧ (-1 : Int32).toInt < 24 from by omega) rfl dX1_at_42
    · have tc_6 := t_nle c_6
      refine lv_aload_n hx hb dX1_at_25 rfl (lv_at hl 0 rfl) ?_
      refine va_get (D := D) (ci := 1) (v := .ref ac) (C := RX1) (T := TX1) (N := 2) hx hb hts in_v_at_X1 hown hK.1 hP 0 rfl rfl 1 (by decide) lk1 (fun _ h9 => h9) rfl dX1_at_26 ?_
      refine lv_iload_n hx hb dX1_at_29 rfl (lv_at hl 1 rfl) ?_
      refine lv_aload_n hx hb dX1_at_30 rfl (lv_at hl 0 rfl) ?_
      refine va_get (D := D) (ci := 1) (v := .int 4) (C := RX1) (T := TX1) (N := 2) hx hb hts in_v_at_X1 hown hK.1 hP 0 rfl rfl 0 (by decide) lk0 (fun _ h9 => h9) rfl dX1_at_31 ?_
      refine lv_imul hx hb dX1_at_34 ?_
      refine lv_topi (fun x_7 ex_7 => ?_)
      first | have tx_7 := t_mulK kk4 ex_7 (by omega) (by omega) | skip
      refine lv_iload_n hx hb dX1_at_35 rfl (lv_at hl 2 rfl) ?_
      refine lv_iadd hx hb dX1_at_36 ?_
      refine lv_topi (fun x_8 ex_8 => ?_)
      first | have tx_8 := t_add ex_8 (by omega) (by omega) | skip
      refine va_iald hx hb hK.1 hP 1 0 rfl rfl (t_in (by omega) (by omega)) dX1_at_37 ?_
      refine lv_topi (fun y_9 ey_9 => ?_)
      have hq : -1 ≤ y_9.toInt ∧ y_9.toInt < 24 := by rw [ey_9]; exact hr.get (by omega) (by omega)
      refine lv_goto (tgt := 42) hx hb dX1_at_38 (by decide) ?_
      exact hret y_9 _ _ (show -1 ≤ y_9.toInt ∧ y_9.toInt < 24 from by omega) rfl dX1_at_42

theorem in_v_put_X1 : ∀ w ∈ wsX10, w ∈ wsX1_put := tl_X1_put_X1
set_option maxHeartbeats 8000000 in
set_option maxRecDepth 100000 in
theorem v_put {l : Launch} {D : va_G} {cI cZ cB : ClassId} {sz : Nat} {h ac L : Nat} {fc : Nat → Int32} {d k x : Int32} (hL : L < 65536) (hd : (d.toInt + 1) * 4 ≤ L) (hd0 : 0 ≤ d.toInt) (hr : InR fc L (-1) 24) (hx0 : -1 ≤ x.toInt) (hx1 : x.toInt < 24) : Met l yX1_put wsX1_put ({ frames := 1, cells := 0, slots := 0, locals := 22 }) (RW D cI cZ cB [.ref h, .int d, .int k, .int x] sz [(h, .inr (1, [.int 4, .ref ac])), (ac, .inl (cI, L, .inl fc))]) (va_Qv (fun u : (Nat → Int32) => InR u L (-1) 24) (BW D [(h, .inr (1, [.int 4, .ref ac])), (ac, .inl (cI, L, .inl fc))] sz (fun u : (Nat → Int32) => [(h, .inr (1, [.int 4, .ref ac])), (ac, .inl (cI, L, .inl u))])) (va_A [(h, .inr (1, [.int 4, .ref ac])), (ac, .inl (cI, L, .inl fc))] sz)) 0 0 (va_A [(h, .inr (1, [.int 4, .ref ac])), (ac, .inl (cI, L, .inl fc))] sz) := by
  refine rw_retv (cc := cX1_put) (maxL := 4) (own := RX1) (by decide) rfl rfl (Nat.le_of_ble_eq_true rfl) ?_
  intro p e s m args below meth c Q A S hin hret hP hK hD hA hS ls hl
  obtain ⟨hx, hb, hml, hown, hts⟩ := id S
  have hl : lv_has ls 4 [(0, .ref h), (1, .int d), (2, .int k), (3, .int x)] := hl
  have kk0 : (0 : Int32).toInt = 0 := by decide
  have kk1 : (1 : Int32).toInt = 1 := by decide
  have kk4 : (4 : Int32).toInt = 4 := by decide
  have lk0 := hts (.fieldLink RX1 15 "AbbeyHours$DayTable" "width" "I") (List.mem_cons_of_mem _ (List.mem_append_left _ (List.mem_of_getElem? (i := 0) rfl)))
  have lk1 := hts (.fieldLink RX1 21 "AbbeyHours$DayTable" "cells" "[I") (List.mem_cons_of_mem _ (List.mem_append_left _ (List.mem_of_getElem? (i := 1) rfl)))
  refine lv_aload_n hx hb dX1_put_0 rfl (lv_at hl 0 rfl) ?_
  refine lv_iload_n hx hb dX1_put_1 rfl (lv_at hl 1 rfl) ?_
  refine lv_iload_n hx hb dX1_put_2 rfl (lv_at hl 2 rfl) ?_
  have hPc := hP.sub (ws' := [(h, .inr (1, [.int 4, .ref ac]))]) [0] rfl
  refine roV (As := [.int d, .int k]) (rest := []) S (d4_isCell  ) (cwV 2 hts gX1_put_X1_isCell rfl rfl rfl ⟨rfl, hd_X1_isCell⟩ ⟨Nat.le_of_ble_eq_true rfl, Nat.le_of_ble_eq_true rfl⟩) hK hPc (va_recv hK.1 hPc (ci := 1) (q0 := 0) rfl rfl) rfl hl.1 rfl (Nat.le_of_ble_eq_true rfl) dX1_put_3 ⟨Nat.le_of_ble_eq_true rfl, Nat.le_of_ble_eq_true rfl⟩ (fun r_1 hw_1 => ?_)
  have hw_1 : (r_1.toInt = 1 ∧ 0 ≤ d.toInt ∧ d.toInt < 1095 ∧ 0 ≤ k.toInt ∧ k.toInt < 4) ∨ (r_1.toInt = 0 ∧ (d.toInt < 0 ∨ 1095 ≤ d.toInt ∨ k.toInt < 0 ∨ 4 ≤ k.toInt)) := hw_1
  refine lv_if_ne (tgt := 10) hx hb dX1_put_6 (by decide) (fun c_2 => ?_) (fun c_2 => ?_)
  · have tc_2 := t_neq c_2
    refine lv_iload_n hx hb dX1_put_10 rfl (lv_at hl 1 rfl) ?_
    refine lv_iconst (v := 1) hx hb dX1_put_11 (by decide) ?_
    refine lv_iadd hx hb dX1_put_12 ?_
    refine lv_topi (fun x_3 ex_3 => ?_)
    first | have tx_3 := t_add ex_3 (by omega) (by omega) | skip
    refine lv_aload_n hx hb dX1_put_13 rfl (lv_at hl 0 rfl) ?_
    refine va_get (D := D) (ci := 1) (v := .int 4) (C := RX1) (T := TX1) (N := 2) hx hb hts in_v_put_X1 hown hK.1 hP 0 rfl rfl 0 (by decide) lk0 (fun _ h9 => h9) rfl dX1_put_14 ?_
    refine lv_imul hx hb dX1_put_17 ?_
    refine lv_topi (fun x_4 ex_4 => ?_)
    first | have tx_4 := t_mulK kk4 ex_4 (by omega) (by omega) | skip
    refine lv_aload_n hx hb dX1_put_18 rfl (lv_at hl 0 rfl) ?_
    refine va_get (D := D) (ci := 1) (v := .ref ac) (C := RX1) (T := TX1) (N := 2) hx hb hts in_v_put_X1 hown hK.1 hP 0 rfl rfl 1 (by decide) lk1 (fun _ h9 => h9) rfl dX1_put_19 ?_
    refine va_alen hx hb hK.1 hP 1 0 rfl rfl rfl dX1_put_22 ?_
    refine lv_topi (fun x_5 ex_5 => ?_)
    have tx_5 : x_5.toInt = L := by rw [ex_5]; exact nI_toInt (by omega)
    refine lv_icmp_le (tgt := 38) hx hb dX1_put_23 (by decide) (fun c_6 => ?_) (fun c_6 => ?_)
    · have tc_6 := t_le c_6
      refine lv_aload_n hx hb dX1_put_38 rfl (lv_at hl 0 rfl) ?_
      refine va_get (D := D) (ci := 1) (v := .ref ac) (C := RX1) (T := TX1) (N := 2) hx hb hts in_v_put_X1 hown hK.1 hP 0 rfl rfl 1 (by decide) lk1 (fun _ h9 => h9) rfl dX1_put_39 ?_
      refine lv_iload_n hx hb dX1_put_42 rfl (lv_at hl 1 rfl) ?_
      refine lv_aload_n hx hb dX1_put_43 rfl (lv_at hl 0 rfl) ?_
      refine va_get (D := D) (ci := 1) (v := .int 4) (C := RX1) (T := TX1) (N := 2) hx hb hts in_v_put_X1 hown hK.1 hP 0 rfl rfl 0 (by decide) lk0 (fun _ h9 => h9) rfl dX1_put_44 ?_
      refine lv_imul hx hb dX1_put_47 ?_
      refine lv_topi (fun x_7 ex_7 => ?_)
      first | have tx_7 := t_mulK kk4 ex_7 (by omega) (by omega) | skip
      refine lv_iload_n hx hb dX1_put_48 rfl (lv_at hl 2 rfl) ?_
      refine lv_iadd hx hb dX1_put_49 ?_
      refine lv_topi (fun x_8 ex_8 => ?_)
      first | have tx_8 := t_add ex_8 (by omega) (by omega) | skip
      refine lv_iload_n hx hb dX1_put_50 rfl (lv_at hl 3 rfl) ?_
      refine va_iast hx hb hK.1 hP hD hS 1 0 rfl rfl (t_in (by omega) (by omega)) dX1_put_51 (fun H locs hP hD hS => ?_)
      obtain ⟨gg, egg⟩ : ∃ z : Nat → Int32, z = upd fc ((x_8 : Int32).toNatClampNeg) x := ⟨_, rfl⟩
      rw [← egg] at hP hD
      have hP : va_P D vwCl [(h, .inr (1, [.int 4, .ref ac])), (ac, .inl (cI, L, .inl gg))] H := hP
      have hD := asD hP hD
      exact hret gg _ _ _ _ (show InR gg L (-1) 24 from by rw [egg]; exact hr.put (by omega) (by omega)) (hP.sub [0, 1] rfl) (hD.sub [0, 1] (by decide +kernel) rfl) hS dX1_put_52
    · have tc_6 := t_nle c_6
      exfalso; omega
  · have tc_2 := t_eq c_2
    exact hret fc _ _ _ _ (show InR fc L (-1) 24 from hr) (hP.sub [0, 1] rfl) (hD.sub [0, 1] (by decide +kernel) rfl) hS dX1_put_9

theorem in_v_holder_X2 : ∀ w ∈ wsX20, w ∈ wsX2_holder := tl_X2_holder_X2
set_option maxHeartbeats 8000000 in
set_option maxRecDepth 100000 in
theorem v_holder {l : Launch} {D : va_G} {cI cZ cB : ClassId} {h a_holders a_taken ac L : Nat} {fc : Nat → Int32} {d k : Int32} (hL : L < 65536) (hr : InR fc L (-1) 24) : Met l yX2_holder wsX2_holder ({ frames := 2, cells := 0, slots := 0, locals := 44 }) (RO D cI cZ cB [.ref h, .int d, .int k] [(h, .inr (2, [.ref a_holders, .ref a_taken])), (a_holders, .inr (1, [.int 4, .ref ac])), (ac, .inl (cI, L, .inl fc))]) (vp_Si (fun r : Int32 => -1 ≤ r.toInt ∧ r.toInt < 24)) 0 0 (fun _ => False) := by
  refine ro_ret (cc := cX2_holder) (maxL := 3) (ty := .int) (own := RX2) (by decide) rfl rfl (Nat.le_of_ble_eq_true rfl) ?_
  intro p e s m args below meth c Q S hret hP hK ls hl
  obtain ⟨hx, hb, hml, hown, hts⟩ := id S
  have hl : lv_has ls 3 [(0, .ref h), (1, .int d), (2, .int k)] := hl
  have kk0 : (0 : Int32).toInt = 0 := by decide
  have lk0 := hts (.fieldLink RX2 14 "AbbeyHours$Duties" "holders" "LAbbeyHours$DayTable;") (List.mem_cons_of_mem _ (List.mem_append_left _ (List.mem_append_left _ (List.mem_of_getElem? (i := 0) rfl))))
  refine lv_aload_n hx hb dX2_holder_0 rfl (lv_at hl 0 rfl) ?_
  refine va_get (D := D) (ci := 2) (v := .ref a_holders) (C := RX2) (T := TX2) (N := 2) hx hb hts in_v_holder_X2 hown hK.1 hP 0 rfl rfl 0 (by decide) lk0 (fun _ h9 => h9) rfl dX2_holder_1 ?_
  refine lv_iload_n hx hb dX2_holder_4 rfl (lv_at hl 1 rfl) ?_
  refine lv_iload_n hx hb dX2_holder_5 rfl (lv_at hl 2 rfl) ?_
  have hPc := hP.sub (ws' := [(a_holders, .inr (1, [.int 4, .ref ac])), (ac, .inl (cI, L, .inl fc))]) [1, 2] rfl
  refine roV (As := [.int d, .int k]) (rest := []) S (v_at  (by omega) (hr)) (cwV 2 hts gX2_holder_X1_at rfl rfl rfl ⟨rfl, hd_X1_at⟩ ⟨Nat.le_of_ble_eq_true rfl, Nat.le_of_ble_eq_true rfl⟩) hK hPc (va_recv hK.1 hPc (ci := 1) (q0 := 0) rfl rfl) rfl hl.1 rfl (Nat.le_of_ble_eq_true rfl) dX2_holder_6 ⟨Nat.le_of_ble_eq_true rfl, Nat.le_of_ble_eq_true rfl⟩ (fun r_1 hw_1 => ?_)
  have hw_1 : -1 ≤ r_1.toInt ∧ r_1.toInt < 24 := hw_1
  exact hret r_1 _ _ (show -1 ≤ r_1.toInt ∧ r_1.toInt < 24 from by omega) rfl dX2_holder_9

theorem in_v_give_X2 : ∀ w ∈ wsX20, w ∈ wsX2_give := tl_X2_give_X2
set_option maxHeartbeats 8000000 in
set_option maxRecDepth 100000 in
theorem v_give {l : Launch} {D : va_G} {cI cZ cB : ClassId} {sz : Nat} {h a_holders a_taken ac L : Nat} {fc ft : Nat → Int32} {d k i : Int32} (hL : L < 65536) (hd : (d.toInt + 1) * 4 ≤ L) (hd0 : 0 ≤ d.toInt) (hk0 : 0 ≤ k.toInt) (hk1 : k.toInt < 4) (hi : i.toInt = -1 ∨ (0 ≤ i.toInt ∧ i.toInt < 24)) (hr : InR fc L (-1) 24) : Met l yX2_give wsX2_give ({ frames := 2, cells := 0, slots := 0, locals := 45 }) (RW D cI cZ cB [.ref h, .int d, .int k, .int i] sz [(h, .inr (2, [.ref a_holders, .ref a_taken])), (a_holders, .inr (1, [.int 4, .ref ac])), (ac, .inl (cI, L, .inl fc)), (a_taken, .inl (cI, 96, .inl ft))]) (va_Qv (fun u : (Nat → Int32) × (Nat → Int32) => InR u.1 L (-1) 24) (BW D [(h, .inr (2, [.ref a_holders, .ref a_taken])), (a_holders, .inr (1, [.int 4, .ref ac])), (ac, .inl (cI, L, .inl fc)), (a_taken, .inl (cI, 96, .inl ft))] sz (fun u : (Nat → Int32) × (Nat → Int32) => [(h, .inr (2, [.ref a_holders, .ref a_taken])), (a_holders, .inr (1, [.int 4, .ref ac])), (ac, .inl (cI, L, .inl u.1)), (a_taken, .inl (cI, 96, .inl u.2))])) (va_A [(h, .inr (2, [.ref a_holders, .ref a_taken])), (a_holders, .inr (1, [.int 4, .ref ac])), (ac, .inl (cI, L, .inl fc)), (a_taken, .inl (cI, 96, .inl ft))] sz)) 0 0 (va_A [(h, .inr (2, [.ref a_holders, .ref a_taken])), (a_holders, .inr (1, [.int 4, .ref ac])), (ac, .inl (cI, L, .inl fc)), (a_taken, .inl (cI, 96, .inl ft))] sz) := by
  refine rw_retv (cc := cX2_give) (maxL := 4) (own := RX2) (by decide) rfl rfl (Nat.le_of_ble_eq_true rfl) ?_
  intro p e s m args below meth c Q A S hin hret hP hK hD hA hS ls hl
  obtain ⟨hx, hb, hml, hown, hts⟩ := id S
  have hl : lv_has ls 4 [(0, .ref h), (1, .int d), (2, .int k), (3, .int i)] := hl
  have kkm1 : (-1 : Int32).toInt = -1 := by decide
  have kk0 : (0 : Int32).toInt = 0 := by decide
  have kk1 : (1 : Int32).toInt = 1 := by decide
  have kk4 : (4 : Int32).toInt = 4 := by decide
  have lk0 := hts (.fieldLink RX2 14 "AbbeyHours$Duties" "holders" "LAbbeyHours$DayTable;") (mc_X2_give_r1 _ (List.mem_of_getElem? (i := 0) rfl))
  have lk1 := hts (.fieldLink RX2 22 "AbbeyHours$Duties" "taken" "[I") (mc_X2_give_r1 _ (List.mem_of_getElem? (i := 1) rfl))
  refine lv_aload_n hx hb dX2_give_0 rfl (lv_at hl 0 rfl) ?_
  refine va_get (D := D) (ci := 2) (v := .ref a_holders) (C := RX2) (T := TX2) (N := 2) hx hb hts in_v_give_X2 hown hK.1 hP 0 rfl rfl 0 (by decide) lk0 (fun _ h9 => h9) rfl dX2_give_1 ?_
  refine lv_iload_n hx hb dX2_give_4 rfl (lv_at hl 1 rfl) ?_
  refine lv_iload_n hx hb dX2_give_5 rfl (lv_at hl 2 rfl) ?_
  refine lv_iload_n hx hb dX2_give_6 rfl (lv_at hl 3 rfl) ?_
  have hPc := hP.sub (ws' := [(a_holders, .inr (1, [.int 4, .ref ac])), (ac, .inl (cI, L, .inl fc))]) [1, 2] rfl
  refine rwVv (As := [.int d, .int k, .int i]) (rest := []) (wc := [(a_holders, .inr (1, [.int 4, .ref ac])), (ac, .inl (cI, L, .inl fc))]) (wr := [(h, .inr (2, [.ref a_holders, .ref a_taken])), (a_taken, .inl (cI, 96, .inl ft))]) S (v_put  (by omega) (by omega) (by omega) (hr) (by omega) (by omega)) (cwV 3 hts gX2_give_X1_put rfl rfl rfl ⟨rfl, hd_X1_put⟩ ⟨Nat.le_of_ble_eq_true rfl, Nat.le_of_ble_eq_true rfl⟩) hK hP hD hS hA [1, 2] [0, 3] rfl rfl (by decide +kernel) (by decide +kernel) (by decide +kernel) (va_recv hK.1 hPc (ci := 1) (q0 := 0) rfl rfl) rfl hl.1 rfl (Nat.le_of_ble_eq_true rfl) dX2_give_7 ⟨Nat.le_of_ble_eq_true rfl, Nat.le_of_ble_eq_true rfl⟩ (fun u_pu H locs hw_pu hP hD hS => ?_)
  obtain ⟨fc1_pu, rfl⟩ : ∃ z, z = u_pu := ⟨_, rfl⟩
  have hw_pu : InR fc1_pu L (-1) 24 := hw_pu
  have hP : va_P D vwCl [(h, .inr (2, [.ref a_holders, .ref a_taken])), (a_taken, .inl (cI, 96, .inl ft)), (a_holders, .inr (1, [.int 4, .ref ac])), (ac, .inl (cI, L, .inl fc1_pu))] H := hP
  have hD := asD hP hD
  refine lv_iload_n hx hb dX2_give_10 rfl (lv_at hl 3 rfl) ?_
  refine lv_iconst (v := (-1)) hx hb dX2_give_11 (by decide) ?_
  refine lv_icmp_eq (tgt := 29) hx hb dX2_give_12 (by decide) (fun c_1 => ?_) (fun c_1 => ?_)
  · have tc_1 := t_eq c_1
    exact hret (fc1_pu, ft) _ _ _ _ (show InR fc1_pu L (-1) 24 from hw_pu) (hP.sub [0, 2, 3, 1] rfl) (hD.sub [0, 2, 3, 1] (by decide +kernel) rfl) hS dX2_give_29
  · have tc_1 := t_neq c_1
    refine lv_aload_n hx hb dX2_give_15 rfl (lv_at hl 0 rfl) ?_
    refine va_get (D := D) (ci := 2) (v := .ref a_taken) (C := RX2) (T := TX2) (N := 2) hx hb hts in_v_give_X2 hown hK.1 hP 0 rfl rfl 1 (by decide) lk1 (fun _ h9 => h9) rfl dX2_give_16 ?_
    refine lv_iload_n hx hb dX2_give_19 rfl (lv_at hl 3 rfl) ?_
    refine lv_iconst (v := 4) hx hb dX2_give_20 (by decide) ?_
    refine lv_imul hx hb dX2_give_21 ?_
    refine lv_topi (fun x_2 ex_2 => ?_)
    first | have tx_2 := t_mulK kk4 ex_2 (by omega) (by omega) | skip
    refine lv_iload_n hx hb dX2_give_22 rfl (lv_at hl 2 rfl) ?_
    refine lv_iadd hx hb dX2_give_23 ?_
    refine lv_topi (fun x_3 ex_3 => ?_)
    first | have tx_3 := t_add ex_3 (by omega) (by omega) | skip
    refine lv_dup2_11 hx hb dX2_give_24 rfl rfl ?_
    refine va_iald hx hb hK.1 hP 1 0 rfl rfl (t_in (by omega) (by omega)) dX2_give_25 ?_
    refine lv_topi (fun y_4 ey_4 => ?_)
    refine lv_iconst (v := 1) hx hb dX2_give_26 (by decide) ?_
    refine lv_iadd hx hb dX2_give_27 ?_
    refine lv_topi (fun x_5 ex_5 => ?_)
    refine va_iast hx hb hK.1 hP hD hS 1 0 rfl rfl (t_in (by omega) (by omega)) dX2_give_28 (fun H locs hP hD hS => ?_)
    obtain ⟨g_6, eg_6⟩ : ∃ z : Nat → Int32, z = upd ft ((x_3 : Int32).toNatClampNeg) x_5 := ⟨_, rfl⟩
    rw [← eg_6] at hP hD
    have hP : va_P D vwCl [(h, .inr (2, [.ref a_holders, .ref a_taken])), (a_taken, .inl (cI, 96, .inl g_6)), (a_holders, .inr (1, [.int 4, .ref ac])), (ac, .inl (cI, L, .inl fc1_pu))] H := hP
    have hD := asD hP hD
    exact hret (fc1_pu, g_6) _ _ _ _ (show InR fc1_pu L (-1) 24 from hw_pu) (hP.sub [0, 2, 3, 1] rfl) (hD.sub [0, 2, 3, 1] (by decide +kernel) rfl) hS dX2_give_29

theorem in_v_replace_X2 : ∀ w ∈ wsX20, w ∈ wsX2_replace := tl_X2_replace_X2
set_option maxHeartbeats 8000000 in
set_option maxRecDepth 100000 in
theorem v_replace {l : Launch} {D : va_G} {cI cZ cB : ClassId} {sz : Nat} {h a_holders a_taken ac L hm ma_priests ma_barred ma_cameOn ma_absent ma_absentFrom ma_absentTo : Nat} {mv_size mv_rows : Int32} {fc ft mf_barred mf_cameOn mf_absent mf_absentFrom mf_absentTo : Nat → Int32} {d k : Int32} (hL : L < 65536) (hmv_size0 : 0 ≤ mv_size.toInt) (hmv_size1 : mv_size.toInt ≤ 24) (hmv_rows0 : 0 ≤ mv_rows.toInt) (hmv_rows1 : mv_rows.toInt ≤ 60) (hd : (d.toInt + 1) * 4 ≤ L) (hd0 : 0 ≤ d.toInt) (hk0 : 0 ≤ k.toInt) (hk1 : k.toInt < 4) (hr : InR fc L (-1) 24) : Met l yX2_replace wsX2_replace ({ frames := 5, cells := 0, slots := 0, locals := 115 }) (RW D cI cZ cB [.ref h, .ref hm, .int d, .int k] sz [(h, .inr (2, [.ref a_holders, .ref a_taken])), (a_holders, .inr (1, [.int 4, .ref ac])), (ac, .inl (cI, L, .inl fc)), (a_taken, .inl (cI, 96, .inl ft)), (hm, .inr (5, [.ref ma_priests, .ref ma_barred, .ref ma_cameOn, .ref ma_absent, .ref ma_absentFrom, .ref ma_absentTo, .int mv_size, .int mv_rows])), (ma_barred, .inl (cI, 24, .inl mf_barred)), (ma_cameOn, .inl (cI, 24, .inl mf_cameOn)), (ma_absent, .inl (cI, 60, .inl mf_absent)), (ma_absentFrom, .inl (cI, 60, .inl mf_absentFrom)), (ma_absentTo, .inl (cI, 60, .inl mf_absentTo))]) (va_Qi (fun (r : Int32) (u : (Nat → Int32) × (Nat → Int32)) => InR u.1 L (-1) 24) (BW D [(h, .inr (2, [.ref a_holders, .ref a_taken])), (a_holders, .inr (1, [.int 4, .ref ac])), (ac, .inl (cI, L, .inl fc)), (a_taken, .inl (cI, 96, .inl ft)), (hm, .inr (5, [.ref ma_priests, .ref ma_barred, .ref ma_cameOn, .ref ma_absent, .ref ma_absentFrom, .ref ma_absentTo, .int mv_size, .int mv_rows])), (ma_barred, .inl (cI, 24, .inl mf_barred)), (ma_cameOn, .inl (cI, 24, .inl mf_cameOn)), (ma_absent, .inl (cI, 60, .inl mf_absent)), (ma_absentFrom, .inl (cI, 60, .inl mf_absentFrom)), (ma_absentTo, .inl (cI, 60, .inl mf_absentTo))] sz (fun u : (Nat → Int32) × (Nat → Int32) => [(h, .inr (2, [.ref a_holders, .ref a_taken])), (a_holders, .inr (1, [.int 4, .ref ac])), (ac, .inl (cI, L, .inl u.1)), (a_taken, .inl (cI, 96, .inl u.2)), (hm, .inr (5, [.ref ma_priests, .ref ma_barred, .ref ma_cameOn, .ref ma_absent, .ref ma_absentFrom, .ref ma_absentTo, .int mv_size, .int mv_rows])), (ma_barred, .inl (cI, 24, .inl mf_barred)), (ma_cameOn, .inl (cI, 24, .inl mf_cameOn)), (ma_absent, .inl (cI, 60, .inl mf_absent)), (ma_absentFrom, .inl (cI, 60, .inl mf_absentFrom)), (ma_absentTo, .inl (cI, 60, .inl mf_absentTo))])) (va_A [(h, .inr (2, [.ref a_holders, .ref a_taken])), (a_holders, .inr (1, [.int 4, .ref ac])), (ac, .inl (cI, L, .inl fc)), (a_taken, .inl (cI, 96, .inl ft)), (hm, .inr (5, [.ref ma_priests, .ref ma_barred, .ref ma_cameOn, .ref ma_absent, .ref ma_absentFrom, .ref ma_absentTo, .int mv_size, .int mv_rows])), (ma_barred, .inl (cI, 24, .inl mf_barred)), (ma_cameOn, .inl (cI, 24, .inl mf_cameOn)), (ma_absent, .inl (cI, 60, .inl mf_absent)), (ma_absentFrom, .inl (cI, 60, .inl mf_absentFrom)), (ma_absentTo, .inl (cI, 60, .inl mf_absentTo))] sz)) 0 0 (va_A [(h, .inr (2, [.ref a_holders, .ref a_taken])), (a_holders, .inr (1, [.int 4, .ref ac])), (ac, .inl (cI, L, .inl fc)), (a_taken, .inl (cI, 96, .inl ft)), (hm, .inr (5, [.ref ma_priests, .ref ma_barred, .ref ma_cameOn, .ref ma_absent, .ref ma_absentFrom, .ref ma_absentTo, .int mv_size, .int mv_rows])), (ma_barred, .inl (cI, 24, .inl mf_barred)), (ma_cameOn, .inl (cI, 24, .inl mf_cameOn)), (ma_absent, .inl (cI, 60, .inl mf_absent)), (ma_absentFrom, .inl (cI, 60, .inl mf_absentFrom)), (ma_absentTo, .inl (cI, 60, .inl mf_absentTo))] sz) := by
  refine rw_ret (cc := cX2_replace) (maxL := 6) (ty := .int) (own := RX2) (by decide) rfl rfl (Nat.le_of_ble_eq_true rfl) ?_
  intro p e s m args below meth c Q A S hin hret hP hK hD hA hS ls hl
  obtain ⟨hx, hb, hml, hown, hts⟩ := id S
  have hl : lv_has ls 6 [(0, .ref h), (1, .ref hm), (2, .int d), (3, .int k)] := hl
  have kkm1 : (-1 : Int32).toInt = -1 := by decide
  have kk0 : (0 : Int32).toInt = 0 := by decide
  have kk1 : (1 : Int32).toInt = 1 := by decide
  have kk4 : (4 : Int32).toInt = 4 := by decide
  have lk0 := hts (.fieldLink RX2 22 "AbbeyHours$Duties" "taken" "[I") (mc_X2_replace_r1 _ (List.mem_of_getElem? (i := 0) rfl))
  refine lv_aload_n hx hb dX2_replace_0 rfl (lv_at hl 0 rfl) ?_
  refine lv_aload_n hx hb dX2_replace_1 rfl (lv_at hl 1 rfl) ?_
  refine lv_iload_n hx hb dX2_replace_2 rfl (lv_at hl 2 rfl) ?_
  refine lv_iload_n hx hb dX2_replace_3 rfl (lv_at hl 3 rfl) ?_
  have hPc := hP.sub (ws' := [(h, .inr (2, [.ref a_holders, .ref a_taken])), (a_holders, .inr (1, [.int 4, .ref ac])), (ac, .inl (cI, L, .inl fc)), (a_taken, .inl (cI, 96, .inl ft)), (hm, .inr (5, [.ref ma_priests, .ref ma_barred, .ref ma_cameOn, .ref ma_absent, .ref ma_absentFrom, .ref ma_absentTo, .int mv_size, .int mv_rows])), (ma_barred, .inl (cI, 24, .inl mf_barred)), (ma_cameOn, .inl (cI, 24, .inl mf_cameOn)), (ma_absent, .inl (cI, 60, .inl mf_absent)), (ma_absentFrom, .inl (cI, 60, .inl mf_absentFrom)), (ma_absentTo, .inl (cI, 60, .inl mf_absentTo))]) [0, 1, 2, 3, 4, 5, 6, 7, 8, 9] rfl
  refine roV (As := [.ref hm, .int d, .int k]) (rest := []) S (u_choose  (by omega) (by omega) (by omega) (by omega) (by omega) (by omega) (by omega)) (cwV 3 hts gX2_replace_X2_choose rfl rfl rfl ⟨rfl, hd_X2_choose⟩ ⟨Nat.le_of_ble_eq_true rfl, Nat.le_of_ble_eq_true rfl⟩) hK hPc (va_recv hK.1 hPc (ci := 2) (q0 := 0) rfl rfl) rfl hl.1 rfl (Nat.le_of_ble_eq_true rfl) dX2_replace_4 ⟨Nat.le_of_ble_eq_true rfl, Nat.le_of_ble_eq_true rfl⟩ (fun r_1 hw_1 => ?_)
  have hw_1 : r_1.toInt = -1 ∨ (0 ≤ r_1.toInt ∧ r_1.toInt < mv_size.toInt) := hw_1
  refine lv_istore (lv' := [(4, .int r_1), (0, .ref h), (1, .ref hm), (2, .int d), (3, .int k)]) hx hb dX2_replace_7 hl (by decide) rfl (fun ls hl => ?_)
  refine lv_aload_n hx hb dX2_replace_9 rfl (lv_at hl 1 rfl) ?_
  refine lv_iload_n hx hb dX2_replace_10 rfl (lv_at hl 3 rfl) ?_
  refine lv_iload_n hx hb dX2_replace_11 rfl (lv_at hl 4 rfl) ?_
  have hPc := hP.sub (ws' := [(h, .inr (2, [.ref a_holders, .ref a_taken])), (a_holders, .inr (1, [.int 4, .ref ac])), (ac, .inl (cI, L, .inl fc))]) [0, 1, 2] rfl
  refine roV (As := [.int d, .int k]) (rest := []) S (v_holder  (by omega) (hr)) (cwV 2 hts gX2_replace_X2_holder rfl rfl rfl ⟨rfl, hd_X2_holder⟩ ⟨Nat.le_of_ble_eq_true rfl, Nat.le_of_ble_eq_true rfl⟩) hK hPc (va_recv hK.1 hPc (ci := 2) (q0 := 0) rfl rfl) rfl hl.1 rfl (Nat.le_of_ble_eq_true rfl) dX2_replace_12 ⟨Nat.le_of_ble_eq_true rfl, Nat.le_of_ble_eq_true rfl⟩ (fun r_2 hw_2 => ?_)
  have hw_2 : -1 ≤ r_2.toInt ∧ r_2.toInt < 24 := hw_2
  refine lv_istore (lv' := [(5, .int r_2), (4, .int r_1), (0, .ref h), (1, .ref hm), (2, .int d), (3, .int k)]) hx hb dX2_replace_15 hl (by decide) rfl (fun ls hl => ?_)
  refine lv_iload hx hb dX2_replace_17 (lv_at hl 0 rfl) ?_
  refine lv_iconst (v := (-1)) hx hb dX2_replace_19 (by decide) ?_
  refine lv_icmp_eq (tgt := 38) hx hb dX2_replace_20 (by decide) (fun c_3 => ?_) (fun c_3 => ?_)
  · have tc_3 := t_eq c_3
    refine lv_aload_n hx hb dX2_replace_38 rfl (lv_at hl 2 rfl) ?_
    refine lv_iload_n hx hb dX2_replace_39 rfl (lv_at hl 4 rfl) ?_
    refine lv_iload_n hx hb dX2_replace_40 rfl (lv_at hl 5 rfl) ?_
    refine lv_iload hx hb dX2_replace_41 (lv_at hl 1 rfl) ?_
    have hPc := hP.sub (ws' := [(h, .inr (2, [.ref a_holders, .ref a_taken])), (a_holders, .inr (1, [.int 4, .ref ac])), (ac, .inl (cI, L, .inl fc)), (a_taken, .inl (cI, 96, .inl ft))]) [0, 1, 2, 3] rfl
    refine rwVv (As := [.int d, .int k, .int r_1]) (rest := []) (wc := [(h, .inr (2, [.ref a_holders, .ref a_taken])), (a_holders, .inr (1, [.int 4, .ref ac])), (ac, .inl (cI, L, .inl fc)), (a_taken, .inl (cI, 96, .inl ft))]) (wr := [(hm, .inr (5, [.ref ma_priests, .ref ma_barred, .ref ma_cameOn, .ref ma_absent, .ref ma_absentFrom, .ref ma_absentTo, .int mv_size, .int mv_rows])), (ma_barred, .inl (cI, 24, .inl mf_barred)), (ma_cameOn, .inl (cI, 24, .inl mf_cameOn)), (ma_absent, .inl (cI, 60, .inl mf_absent)), (ma_absentFrom, .inl (cI, 60, .inl mf_absentFrom)), (ma_absentTo, .inl (cI, 60, .inl mf_absentTo))]) S (v_give  (by omega) (by omega) (by omega) (by omega) (by omega) (by omega) (hr)) (cwV 3 hts gX2_replace_X2_give rfl rfl rfl ⟨rfl, hd_X2_give⟩ ⟨Nat.le_of_ble_eq_true rfl, Nat.le_of_ble_eq_true rfl⟩) hK hP hD hS hA [0, 1, 2, 3] [4, 5, 6, 7, 8, 9] rfl rfl (by decide +kernel) (by decide +kernel) (by decide +kernel) (va_recv hK.1 hPc (ci := 2) (q0 := 0) rfl rfl) rfl hl.1 rfl (Nat.le_of_ble_eq_true rfl) dX2_replace_43 ⟨Nat.le_of_ble_eq_true rfl, Nat.le_of_ble_eq_true rfl⟩ (fun u_gi H locs hw_gi hP hD hS => ?_)
    obtain ⟨fc1_gi, ft1_gi⟩ := u_gi
    have hw_gi : InR fc1_gi L (-1) 24 := hw_gi
    have hP : va_P D vwCl [(hm, .inr (5, [.ref ma_priests, .ref ma_barred, .ref ma_cameOn, .ref ma_absent, .ref ma_absentFrom, .ref ma_absentTo, .int mv_size, .int mv_rows])), (ma_barred, .inl (cI, 24, .inl mf_barred)), (ma_cameOn, .inl (cI, 24, .inl mf_cameOn)), (ma_absent, .inl (cI, 60, .inl mf_absent)), (ma_absentFrom, .inl (cI, 60, .inl mf_absentFrom)), (ma_absentTo, .inl (cI, 60, .inl mf_absentTo)), (h, .inr (2, [.ref a_holders, .ref a_taken])), (a_holders, .inr (1, [.int 4, .ref ac])), (ac, .inl (cI, L, .inl fc1_gi)), (a_taken, .inl (cI, 96, .inl ft1_gi))] H := hP
    have hD := asD hP hD
    refine lv_iload hx hb dX2_replace_46 (lv_at hl 1 rfl) ?_
    exact hret r_1 (fc1_gi, ft1_gi) _ _ _ _ (show InR fc1_gi L (-1) 24 from hw_gi) rfl (hP.sub [6, 7, 8, 9, 0, 1, 2, 3, 4, 5] rfl) (hD.sub [6, 7, 8, 9, 0, 1, 2, 3, 4, 5] (by decide +kernel) rfl) hS dX2_replace_48
  · have tc_3 := t_neq c_3
    refine lv_aload_n hx hb dX2_replace_23 rfl (lv_at hl 2 rfl) ?_
    refine va_get (D := D) (ci := 2) (v := .ref a_taken) (C := RX2) (T := TX2) (N := 2) hx hb hts in_v_replace_X2 hown hK.1 hP 0 rfl rfl 1 (by decide) lk0 (fun _ h9 => h9) rfl dX2_replace_24 ?_
    refine lv_iload hx hb dX2_replace_27 (lv_at hl 0 rfl) ?_
    refine lv_iconst (v := 4) hx hb dX2_replace_29 (by decide) ?_
    refine lv_imul hx hb dX2_replace_30 ?_
    refine lv_topi (fun x_4 ex_4 => ?_)
    first | have tx_4 := t_mulK kk4 ex_4 (by omega) (by omega) | skip
    refine lv_iload_n hx hb dX2_replace_31 rfl (lv_at hl 5 rfl) ?_
    refine lv_iadd hx hb dX2_replace_32 ?_
    refine lv_topi (fun x_5 ex_5 => ?_)
    first | have tx_5 := t_add ex_5 (by omega) (by omega) | skip
    refine lv_dup2_11 hx hb dX2_replace_33 rfl rfl ?_
    refine va_iald hx hb hK.1 hP 3 0 rfl rfl (t_in (by omega) (by omega)) dX2_replace_34 ?_
    refine lv_topi (fun y_6 ey_6 => ?_)
    refine lv_iconst (v := 1) hx hb dX2_replace_35 (by decide) ?_
    refine lv_isub hx hb dX2_replace_36 ?_
    refine lv_topi (fun x_7 ex_7 => ?_)
    refine va_iast hx hb hK.1 hP hD hS 3 0 rfl rfl (t_in (by omega) (by omega)) dX2_replace_37 (fun H locs hP hD hS => ?_)
    obtain ⟨g_8, eg_8⟩ : ∃ z : Nat → Int32, z = upd ft ((x_5 : Int32).toNatClampNeg) x_7 := ⟨_, rfl⟩
    rw [← eg_8] at hP hD
    have hP : va_P D vwCl [(h, .inr (2, [.ref a_holders, .ref a_taken])), (a_holders, .inr (1, [.int 4, .ref ac])), (ac, .inl (cI, L, .inl fc)), (a_taken, .inl (cI, 96, .inl g_8)), (hm, .inr (5, [.ref ma_priests, .ref ma_barred, .ref ma_cameOn, .ref ma_absent, .ref ma_absentFrom, .ref ma_absentTo, .int mv_size, .int mv_rows])), (ma_barred, .inl (cI, 24, .inl mf_barred)), (ma_cameOn, .inl (cI, 24, .inl mf_cameOn)), (ma_absent, .inl (cI, 60, .inl mf_absent)), (ma_absentFrom, .inl (cI, 60, .inl mf_absentFrom)), (ma_absentTo, .inl (cI, 60, .inl mf_absentTo))] H := hP
    have hD := asD hP hD
    refine lv_aload_n hx hb dX2_replace_38 rfl (lv_at hl 2 rfl) ?_
    refine lv_iload_n hx hb dX2_replace_39 rfl (lv_at hl 4 rfl) ?_
    refine lv_iload_n hx hb dX2_replace_40 rfl (lv_at hl 5 rfl) ?_
    refine lv_iload hx hb dX2_replace_41 (lv_at hl 1 rfl) ?_
    have hPc := hP.sub (ws' := [(h, .inr (2, [.ref a_holders, .ref a_taken])), (a_holders, .inr (1, [.int 4, .ref ac])), (ac, .inl (cI, L, .inl fc)), (a_taken, .inl (cI, 96, .inl g_8))]) [0, 1, 2, 3] rfl
    refine rwVv (As := [.int d, .int k, .int r_1]) (rest := []) (wc := [(h, .inr (2, [.ref a_holders, .ref a_taken])), (a_holders, .inr (1, [.int 4, .ref ac])), (ac, .inl (cI, L, .inl fc)), (a_taken, .inl (cI, 96, .inl g_8))]) (wr := [(hm, .inr (5, [.ref ma_priests, .ref ma_barred, .ref ma_cameOn, .ref ma_absent, .ref ma_absentFrom, .ref ma_absentTo, .int mv_size, .int mv_rows])), (ma_barred, .inl (cI, 24, .inl mf_barred)), (ma_cameOn, .inl (cI, 24, .inl mf_cameOn)), (ma_absent, .inl (cI, 60, .inl mf_absent)), (ma_absentFrom, .inl (cI, 60, .inl mf_absentFrom)), (ma_absentTo, .inl (cI, 60, .inl mf_absentTo))]) S (v_give  (by omega) (by omega) (by omega) (by omega) (by omega) (by omega) (hr)) (cwV 3 hts gX2_replace_X2_give rfl rfl rfl ⟨rfl, hd_X2_give⟩ ⟨Nat.le_of_ble_eq_true rfl, Nat.le_of_ble_eq_true rfl⟩) hK hP hD hS hA [0, 1, 2, 3] [4, 5, 6, 7, 8, 9] rfl rfl (by decide +kernel) (by decide +kernel) (by decide +kernel) (va_recv hK.1 hPc (ci := 2) (q0 := 0) rfl rfl) rfl hl.1 rfl (Nat.le_of_ble_eq_true rfl) dX2_replace_43 ⟨Nat.le_of_ble_eq_true rfl, Nat.le_of_ble_eq_true rfl⟩ (fun u_gi H locs hw_gi hP hD hS => ?_)
    obtain ⟨fc1_gi, ft1_gi⟩ := u_gi
    have hw_gi : InR fc1_gi L (-1) 24 := hw_gi
    have hP : va_P D vwCl [(hm, .inr (5, [.ref ma_priests, .ref ma_barred, .ref ma_cameOn, .ref ma_absent, .ref ma_absentFrom, .ref ma_absentTo, .int mv_size, .int mv_rows])), (ma_barred, .inl (cI, 24, .inl mf_barred)), (ma_cameOn, .inl (cI, 24, .inl mf_cameOn)), (ma_absent, .inl (cI, 60, .inl mf_absent)), (ma_absentFrom, .inl (cI, 60, .inl mf_absentFrom)), (ma_absentTo, .inl (cI, 60, .inl mf_absentTo)), (h, .inr (2, [.ref a_holders, .ref a_taken])), (a_holders, .inr (1, [.int 4, .ref ac])), (ac, .inl (cI, L, .inl fc1_gi)), (a_taken, .inl (cI, 96, .inl ft1_gi))] H := hP
    have hD := asD hP hD
    refine lv_iload hx hb dX2_replace_46 (lv_at hl 1 rfl) ?_
    exact hret r_1 (fc1_gi, ft1_gi) _ _ _ _ (show InR fc1_gi L (-1) 24 from hw_gi) rfl (hP.sub [6, 7, 8, 9, 0, 1, 2, 3, 4, 5] rfl) (hD.sub [6, 7, 8, 9, 0, 1, 2, 3, 4, 5] (by decide +kernel) rfl) hS dX2_replace_48

