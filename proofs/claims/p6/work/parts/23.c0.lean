theorem in_v_at_X1 : ∀ w ∈ wsX10, w ∈ wsX1_at := tl_X1_at_X1
set_option maxHeartbeats 8000000 in
set_option maxRecDepth 100000 in
theorem v_at {l : Launch} {D : va_G} {cI cZ cB : ClassId} {h ac L : Nat} {fc : Nat → Int32} {d k : Int32} (hL : L < 65536) (hr : InR fc L (-1) 24) : Met l yX1_at wsX1_at ({ frames := 1, cells := 0, slots := 0, locals := 22 }) (RO D cI cZ cB [.ref h, .int d, .int k] [(h, .inr (1, [.int 4, .ref ac])), (ac, .inl (cI, L, .inl fc))]) (vp_Si (fun r : Int32 => -1 ≤ r.toInt ∧ r.toInt < 24)) 0 0 (fun _ => False) := by
  refine ro_ret (cc := cX1_at) (maxL := 3) (ty := .int) (own := RX1) (by decide) rfl rfl (Nat.le_of_ble_eq_true rfl) ?_
  intro p e s m args below meth c Q S hret hP hK ls hl
  obtain ⟨hx, hb, hml, hown, hts⟩ := id S
  have hl : lv_has ls 3 [(0, .ref h), (1, .int d), (2, .int k)] := hl
  have kkm1 : (-1 : Int32).toInt = -1 := by decide
  have kk0 : (0 : Int32).toInt = 0 := by decide
  have kk4 : (4 : Int32).toInt = 4 := by decide
  have lk0 := hts (.fieldLink RX1 15 "AbbeyHours$DayTable" "width" "I") (List.mem_cons_of_mem _ (List.mem_append_left _ (List.mem_of_getElem? (i := 0) rfl)))
  have lk1 := hts (.fieldLink RX1 21 "AbbeyHours$DayTable" "cells" "[I") (List.mem_cons_of_mem _ (List.mem_append_left _ (List.mem_of_getElem? (i := 1) rfl)))
  refine lv_aload_n hx hb dX1_at_0 rfl (lv_at hl 0 rfl) ?_
  refine lv_iload_n hx hb dX1_at_1 rfl (lv_at hl 1 rfl) ?_
  refine lv_iload_n hx hb dX1_at_2 rfl (lv_at hl 2 rfl) ?_
  have hPc := hP.sub (ws' := [(h, .inr (1, [.int 4, .ref ac]))]) [0] rfl
  refine roV (As := [.int d, .int k]) (rest := []) S (d4_isCell  ) (cwV 2 hts gX1_at_X1_isCell rfl rfl rfl ⟨rfl, hd_X1_isCell⟩ ⟨Nat.le_of_ble_eq_true rfl, Nat.le_of_ble_eq_true rfl⟩) hK hPc (va_recv hK.1 hPc (ci := 1) (q0 := 0) rfl rfl) rfl hl.1 rfl (Nat.le_of_ble_eq_true rfl) dX1_at_3 ⟨Nat.le_of_ble_eq_true rfl, Nat.le_of_ble_eq_true rfl⟩ (fun r_1 hw_1 => ?_)
  have hw_1 : (r_1.toInt = 1 ∧ 0 ≤ d.toInt ∧ d.toInt < 1095 ∧ 0 ≤ k.toInt ∧ k.toInt < 4) ∨ (r_1.toInt = 0 ∧ (d.toInt < 0 ∨ 1095 ≤ d.toInt ∨ k.toInt < 0 ∨ 4 ≤ k.toInt)) := hw_1
  refine lv_if_eq (tgt := 41) hx hb dX1_at_6 (by decide) (fun c_2 => ?_) (fun c_2 => ?_)
  · have tc_2 := t_eq c_2
    refine lv_iconst (v := (-1)) hx hb dX1_at_41 (by decide) ?_
    exact hret (-1) _ _ (show -1 ≤ (-1 : Int32).toInt ∧ (-1 : Int32).toInt < 24 from by omega) rfl dX1_at_42
  · have tc_2 := t_neq c_2
    refine lv_iload_n hx hb dX1_at_9 rfl (lv_at hl 1 rfl) ?_
    refine lv_aload_n hx hb dX1_at_10 rfl (lv_at hl 0 rfl) ?_
    refine va_get (D := D) (ci := 1) (v := .int 4) (C := RX1) (T := TX1) (N := 2) hx hb hts in_v_at_X1 hown hK.1 hP 0 rfl rfl 0 (by decide) lk0 (fun _ h9 => h9) rfl dX1_at_11 ?_
    refine lv_imul hx hb dX1_at_14 ?_
    refine lv_topi (fun x_3 ex_3 => ?_)
    first | have tx_3 := t_mulK kk4 ex_3 (by omega) (by omega) | skip
    refine lv_iload_n hx hb dX1_at_15 rfl (lv_at hl 2 rfl) ?_
    refine lv_iadd hx hb dX1_at_16 ?_
    refine lv_topi (fun x_4 ex_4 => ?_)
    first | have tx_4 := t_add ex_4 (by omega) (by omega) | skip
    refine lv_aload_n hx hb dX1_at_17 rfl (lv_at hl 0 rfl) ?_
    refine va_get (D := D) (ci := 1) (v := .ref ac) (C := RX1) (T := TX1) (N := 2) hx hb hts in_v_at_X1 hown hK.1 hP 0 rfl rfl 1 (by decide) lk1 (fun _ h9 => h9) rfl dX1_at_18 ?_
    refine va_alen hx hb hK.1 hP 1 0 rfl rfl rfl dX1_at_21 ?_
    refine lv_topi (fun x_5 ex_5 => ?_)
    have tx_5 : x_5.toInt = L := by rw [ex_5]; exact nI_toInt (by omega)
    refine lv_icmp_ge (tgt := 41) hx hb dX1_at_22 (by decide) (fun c_6 => ?_) (fun c_6 => ?_)
    · have tc_6 := t_le c_6
      refine lv_iconst (v := (-1)) hx hb dX1_at_41 (by decide) ?_
      exact hret (-1) _ _ (show -1 ≤ (-1 : Int32).toInt ∧ (-1 : Int32).toInt < 24 from by omega) rfl dX1_at_42
    · have tc_6 := t_nle c_6
      refine lv_aload_n hx hb dX1_at_25 rfl (lv_at hl 0 rfl) ?_
      refine va_get (D := D) (ci := 1) (v := .ref ac) (C := RX1) (T := TX1) (N := 2) hx hb hts in_v_at_X1 hown hK.1 hP 0 rfl rfl 1 (by decide) lk1 (fun _ h9 => h9) rfl dX1_at_26 ?_
      refine lv_iload_n hx hb dX1_at_29 rfl (lv_at hl 1 rfl) ?_
      refine lv_aload_n hx hb dX1_at_30 rfl (lv_at hl 0 rfl) ?_
      refine va_get (D := D) (ci := 1) (v := .int 4) (C := RX1) (T := TX1) (N := 2) hx hb hts in_v_at_X1 hown hK.1 hP 0 rfl rfl 0 (by decide) lk0 (fun _ h9 => h9) rfl dX1_at_31 ?_
      refine lv_imul hx hb dX1_at_34 ?_
      refine lv_topi (fun x_7 ex_7 => ?_)
      first | have tx_7 := t_mulK kk4 ex_7 (by omega) (by omega) | skip
      refine lv_iload_n hx hb dX1_at_35 rfl (lv_at hl 2 rfl) ?_
      refine lv_iadd hx hb dX1_at_36 ?_
      refine lv_topi (fun x_8 ex_8 => ?_)
      first | have tx_8 := t_add ex_8 (by omega) (by omega) | skip
      refine va_iald hx hb hK.1 hP 1 0 rfl rfl (t_in (by omega) (by omega)) dX1_at_37 ?_
      refine lv_topi (fun y_9 ey_9 => ?_)
      have hq : -1 ≤ y_9.toInt ∧ y_9.toInt < 24 := by rw [ey_9]; exact hr.get (by omega) (by omega)
      refine lv_goto (tgt := 42) hx hb dX1_at_38 (by decide) ?_
      exact hret y_9 _ _ (show -1 ≤ y_9.toInt ∧ y_9.toInt < 24 from by omega) rfl dX1_at_42

theorem in_v_put_X1 : ∀ w ∈ wsX10, w ∈ wsX1_put := tl_X1_put_X1
set_option maxHeartbeats 8000000 in
set_option maxRecDepth 100000 in
theorem v_put {l : Launch} {D : va_G} {cI cZ cB : ClassId} {sz : Nat} {h ac L : Nat} {fc : Nat → Int32} {d k x : Int32} (hL : L < 65536) (hd : (d.toInt + 1) * 4 ≤ L) (hd0 : 0 ≤ d.toInt) (hr : InR fc L (-1) 24) (hx0 : -1 ≤ x.toInt) (hx1 : x.toInt < 24) : Met l yX1_put wsX1_put ({ frames := 1, cells := 0, slots := 0, locals := 22 }) (RW D cI cZ cB [.ref h, .int d, .int k, .int x] sz [(h, .inr (1, [.int 4, .ref ac])), (ac, .inl (cI, L, .inl fc))]) (va_Qv (fun u : (Nat → Int32) => InR u L (-1) 24) (BW D [(h, .inr (1, [.int 4, .ref ac])), (ac, .inl (cI, L, .inl fc))] sz (fun u : (Nat → Int32) => [(h, .inr (1, [.int 4, .ref ac])), (ac, .inl (cI, L, .inl u))])) (va_A [(h, .inr (1, [.int 4, .ref ac])), (ac, .inl (cI, L, .inl fc))] sz)) 0 0 (va_A [(h, .inr (1, [.int 4, .ref ac])), (ac, .inl (cI, L, .inl fc))] sz) := by
  refine rw_retv (cc := cX1_put) (maxL := 4) (own := RX1) (by decide) rfl rfl (Nat.le_of_ble_eq_true rfl) ?_
  intro p e s m args below meth c Q A S hin hret hP hK hD hA hS ls hl
  obtain ⟨hx, hb, hml, hown, hts⟩ := id S
  have hl : lv_has ls 4 [(0, .ref h), (1, .int d), (2, .int k), (3, .int x)] := hl
  have kk0 : (0 : Int32).toInt = 0 := by decide
  have kk1 : (1 : Int32).toInt = 1 := by decide
  have kk4 : (4 : Int32).toInt = 4 := by decide
  have lk0 := hts (.fieldLink RX1 15 "AbbeyHours$DayTable" "width" "I") (List.mem_cons_of_mem _ (List.mem_append_left _ (List.mem_of_getElem? (i := 0) rfl)))
  have lk1 := hts (.fieldLink RX1 21 "AbbeyHours$DayTable" "cells" "[I") (List.mem_cons_of_mem _ (List.mem_append_left _ (List.mem_of_getElem? (i := 1) rfl)))
  refine lv_aload_n hx hb dX1_put_0 rfl (lv_at hl 0 rfl) ?_
  refine lv_iload_n hx hb dX1_put_1 rfl (lv_at hl 1 rfl) ?_
  refine lv_iload_n hx hb dX1_put_2 rfl (lv_at hl 2 rfl) ?_
  have hPc := hP.sub (ws' := [(h, .inr (1, [.int 4, .ref ac]))]) [0] rfl
  refine roV (As := [.int d, .int k]) (rest := []) S (d4_isCell  ) (cwV 2 hts gX1_put_X1_isCell rfl rfl rfl ⟨rfl, hd_X1_isCell⟩ ⟨Nat.le_of_ble_eq_true rfl, Nat.le_of_ble_eq_true rfl⟩) hK hPc (va_recv hK.1 hPc (ci := 1) (q0 := 0) rfl rfl) rfl hl.1 rfl (Nat.le_of_ble_eq_true rfl) dX1_put_3 ⟨Nat.le_of_ble_eq_true rfl, Nat.le_of_ble_eq_true rfl⟩ (fun r_1 hw_1 => ?_)
  have hw_1 : (r_1.toInt = 1 ∧ 0 ≤ d.toInt ∧ d.toInt < 1095 ∧ 0 ≤ k.toInt ∧ k.toInt < 4) ∨ (r_1.toInt = 0 ∧ (d.toInt < 0 ∨ 1095 ≤ d.toInt ∨ k.toInt < 0 ∨ 4 ≤ k.toInt)) := hw_1
  refine lv_if_ne (tgt := 10) hx hb dX1_put_6 (by decide) (fun c_2 => ?_) (fun c_2 => ?_)
  · have tc_2 := t_neq c_2
    refine lv_iload_n hx hb dX1_put_10 rfl (lv_at hl 1 rfl) ?_
    refine lv_iconst (v := 1) hx hb dX1_put_11 (by decide) ?_
    refine lv_iadd hx hb dX1_put_12 ?_
    refine lv_topi (fun x_3 ex_3 => ?_)
    first | have tx_3 := t_add ex_3 (by omega) (by omega) | skip
    refine lv_aload_n hx hb dX1_put_13 rfl (lv_at hl 0 rfl) ?_
    refine va_get (D := D) (ci := 1) (v := .int 4) (C := RX1) (T := TX1) (N := 2) hx hb hts in_v_put_X1 hown hK.1 hP 0 rfl rfl 0 (by decide) lk0 (fun _ h9 => h9) rfl dX1_put_14 ?_
    refine lv_imul hx hb dX1_put_17 ?_
    refine lv_topi (fun x_4 ex_4 => ?_)
    first | have tx_4 := t_mulK kk4 ex_4 (by omega) (by omega) | skip
    refine lv_aload_n hx hb dX1_put_18 rfl (lv_at hl 0 rfl) ?_
    refine va_get (D := D) (ci := 1) (v := .ref ac) (C := RX1) (T := TX1) (N := 2) hx hb hts in_v_put_X1 hown hK.1 hP 0 rfl rfl 1 (by decide) lk1 (fun _ h9 => h9) rfl dX1_put_19 ?_
    refine va_alen hx hb hK.1 hP 1 0 rfl rfl rfl dX1_put_22 ?_
    refine lv_topi (fun x_5 ex_5 => ?_)
    have tx_5 : x_5.toInt = L := by rw [ex_5]; exact nI_toInt (by omega)
    refine lv_icmp_le (tgt := 38) hx hb dX1_put_23 (by decide) (fun c_6 => ?_) (fun c_6 => ?_)
    · have tc_6 := t_le c_6
      refine lv_aload_n hx hb dX1_put_38 rfl (lv_at hl 0 rfl) ?_
      refine va_get (D := D) (ci := 1) (v := .ref ac) (C := RX1) (T := TX1) (N := 2) hx hb hts in_v_put_X1 hown hK.1 hP 0 rfl rfl 1 (by decide) lk1 (fun _ h9 => h9) rfl dX1_put_39 ?_
      refine lv_iload_n hx hb dX1_put_42 rfl (lv_at hl 1 rfl) ?_
      refine lv_aload_n hx hb dX1_put_43 rfl (lv_at hl 0 rfl) ?_
      refine va_get (D := D) (ci := 1) (v := .int 4) (C := RX1) (T := TX1) (N := 2) hx hb hts in_v_put_X1 hown hK.1 hP 0 rfl rfl 0 (by decide) lk0 (fun _ h9 => h9) rfl dX1_put_44 ?_
      refine lv_imul hx hb dX1_put_47 ?_
      refine lv_topi (fun x_7 ex_7 => ?_)
      first | have tx_7 := t_mulK kk4 ex_7 (by omega) (by omega) | skip
      refine lv_iload_n hx hb dX1_put_48 rfl (lv_at hl 2 rfl) ?_
      refine lv_iadd hx hb dX1_put_49 ?_
      refine lv_topi (fun x_8 ex_8 => ?_)
      first | have tx_8 := t_add ex_8 (by omega) (by omega) | skip
      refine lv_iload_n hx hb dX1_put_50 rfl (lv_at hl 3 rfl) ?_
      refine va_iast hx hb hK.1 hP hD hS 1 0 rfl rfl (t_in (by omega) (by omega)) dX1_put_51 (fun H locs hP hD hS => ?_)
      obtain ⟨gg, egg⟩ : ∃ z : Nat → Int32, z = upd fc ((x_8 : Int32).toNatClampNeg) x := ⟨_, rfl⟩
      rw [← egg] at hP hD
      have hP : va_P D vwCl [(h, .inr (1, [.int 4, .ref ac])), (ac, .inl (cI, L, .inl gg))] H := hP
      have hD := asD hP hD
      exact hret gg _ _ _ _ (show InR gg L (-1) 24 from by rw [egg]; exact hr.put (by omega) (by omega)) (hP.sub [0, 1] rfl) (hD.sub [0, 1] (by decide +kernel) rfl) hS dX1_put_52
    · have tc_6 := t_nle c_6
      exfalso; omega
  · have tc_2 := t_eq c_2
    exact hret fc _ _ _ _ (show InR fc L (-1) 24 from hr) (hP.sub [0, 1] rfl) (hD.sub [0, 1] (by decide +kernel) rfl) hS dX1_put_9

theorem in_v_holder_X2 : ∀ w ∈ wsX20, w ∈ wsX2_holder := tl_X2_holder_X2
set_option maxHeartbeats 8000000 in
set_option maxRecDepth 100000 in
theorem v_holder {l : Launch} {D : va_G} {cI cZ cB : ClassId} {h a_holders a_taken ac L : Nat} {fc : Nat → Int32} {d k : Int32} (hL : L < 65536) (hr : InR fc L (-1) 24) : Met l yX2_holder wsX2_holder ({ frames := 2, cells := 0, slots := 0, locals := 44 }) (RO D cI cZ cB [.ref h, .int d, .int k] [(h, .inr (2, [.ref a_holders, .ref a_taken])), (a_holders, .inr (1, [.int 4, .ref ac])), (ac, .inl (cI, L, .inl fc))]) (vp_Si (fun r : Int32 => -1 ≤ r.toInt ∧ r.toInt < 24)) 0 0 (fun _ => False) := by
  refine ro_ret (cc := cX2_holder) (maxL := 3) (ty := .int) (own := RX2) (by decide) rfl rfl (Nat.le_of_ble_eq_true rfl) ?_
  intro p e s m args below meth c Q S hret hP hK ls hl
  obtain ⟨hx, hb, hml, hown, hts⟩ := id S
  have hl : lv_has ls 3 [(0, .ref h), (1, .int d), (2, .int k)] := hl
  have kk0 : (0 : Int32).toInt = 0 := by decide
  have lk0 := hts (.fieldLink RX2 14 "AbbeyHours$Duties" "holders" "LAbbeyHours$DayTable;") (List.mem_cons_of_mem _ (List.mem_append_left _ (List.mem_append_left _ (List.mem_of_getElem? (i := 0) rfl))))
  refine lv_aload_n hx hb dX2_holder_0 rfl (lv_at hl 0 rfl) ?_
  refine va_get (D := D) (ci := 2) (v := .ref a_holders) (C := RX2) (T := TX2) (N := 2) hx hb hts in_v_holder_X2 hown hK.1 hP 0 rfl rfl 0 (by decide) lk0 (fun _ h9 => h9) rfl dX2_holder_1 ?_
  refine lv_iload_n hx hb dX2_holder_4 rfl (lv_at hl 1 rfl) ?_
  refine lv_iload_n hx hb dX2_holder_5 rfl (lv_at hl 2 rfl) ?_
  have hPc := hP.sub (ws' := [(a_holders, .inr (1, [.int 4, .ref ac])), (ac, .inl (cI, L, .inl fc))]) [1, 2] rfl
  refine roV (As := [.int d, .int k]) (rest := []) S (v_at  (by omega) (hr)) (cwV 2 hts gX2_holder_X1_at rfl rfl rfl ⟨rfl, hd_X1_at⟩ ⟨Nat.le_of_ble_eq_true rfl, Nat.le_of_ble_eq_true rfl⟩) hK hPc (va_recv hK.1 hPc (ci := 1) (q0 := 0) rfl rfl) rfl hl.1 rfl (Nat.le_of_ble_eq_true rfl) dX2_holder_6 ⟨Nat.le_of_ble_eq_true rfl, Nat.le_of_ble_eq_true rfl⟩ (fun r_1 hw_1 => ?_)
  have hw_1 : -1 ≤ r_1.toInt ∧ r_1.toInt < 24 := hw_1
  exact hret r_1 _ _ (show -1 ≤ r_1.toInt ∧ r_1.toInt < 24 from by omega) rfl dX2_holder_9

theorem in_v_give_X2 : ∀ w ∈ wsX20, w ∈ wsX2_give := tl_X2_give_X2
set_option maxHeartbeats 8000000 in
set_option maxRecDepth 100000 in
theorem v_give {l : Launch} {D : va_G} {cI cZ cB : ClassId} {sz : Nat} {h a_holders a_taken ac L : Nat} {fc ft : Nat → Int32} {d k i : Int32} (hL : L < 65536) (hd : (d.toInt + 1) * 4 ≤ L) (hd0 : 0 ≤ d.toInt) (hk0 : 0 ≤ k.toInt) (hk1 : k.toInt < 4) (hi : i.toInt = -1 ∨ (0 ≤ i.toInt ∧ i.toInt < 24)) (hr : InR fc L (-1) 24) : Met l yX2_give wsX2_give ({ frames := 2, cells := 0, slots := 0, locals := 45 }) (RW D cI cZ cB [.ref h, .int d, .int k, .int i] sz [(h, .inr (2, [.ref a_holders, .ref a_taken])), (a_holders, .inr (1, [.int 4, .ref ac])), (ac, .inl (cI, L, .inl fc)), (a_taken, .inl (cI, 96, .inl ft))]) (va_Qv (fun u : (Nat → Int32) × (Nat → Int32) => InR u.1 L (-1) 24) (BW D [(h, .inr (2, [.ref a_holders, .ref a_taken])), (a_holders, .inr (1, [.int 4, .ref ac])), (ac, .inl (cI, L, .inl fc)), (a_taken, .inl (cI, 96, .inl ft))] sz (fun u : (Nat → Int32) × (Nat → Int32) => [(h, .inr (2, [.ref a_holders, .ref a_taken])), (a_holders, .inr (1, [.int 4, .ref ac])), (ac, .inl (cI, L, .inl u.1)), (a_taken, .inl (cI, 96, .inl u.2))])) (va_A [(h, .inr (2, [.ref a_holders, .ref a_taken])), (a_holders, .inr (1, [.int 4, .ref ac])), (ac, .inl (cI, L, .inl fc)), (a_taken, .inl (cI, 96, .inl ft))] sz)) 0 0 (va_A [(h, .inr (2, [.ref a_holders, .ref a_taken])), (a_holders, .inr (1, [.int 4, .ref ac])), (ac, .inl (cI, L, .inl fc)), (a_taken, .inl (cI, 96, .inl ft))] sz) := by
  refine rw_retv (cc := cX2_give) (maxL := 4) (own := RX2) (by decide) rfl rfl (Nat.le_of_ble_eq_true rfl) ?_
  intro p e s m args below meth c Q A S hin hret hP hK hD hA hS ls hl
  obtain ⟨hx, hb, hml, hown, hts⟩ := id S
  have hl : lv_has ls 4 [(0, .ref h), (1, .int d), (2, .int k), (3, .int i)] := hl
  have kkm1 : (-1 : Int32).toInt = -1 := by decide
  have kk0 : (0 : Int32).toInt = 0 := by decide
  have kk1 : (1 : Int32).toInt = 1 := by decide
  have kk4 : (4 : Int32).toInt = 4 := by decide
  have lk0 := hts (.fieldLink RX2 14 "AbbeyHours$Duties" "holders" "LAbbeyHours$DayTable;") (mc_X2_give_r1 _ (List.mem_of_getElem? (i := 0) rfl))
  have lk1 := hts (.fieldLink RX2 22 "AbbeyHours$Duties" "taken" "[I") (mc_X2_give_r1 _ (List.mem_of_getElem? (i := 1) rfl))
  refine lv_aload_n hx hb dX2_give_0 rfl (lv_at hl 0 rfl) ?_
  refine va_get (D := D) (ci := 2) (v := .ref a_holders) (C := RX2) (T := TX2) (N := 2) hx hb hts in_v_give_X2 hown hK.1 hP 0 rfl rfl 0 (by decide) lk0 (fun _ h9 => h9) rfl dX2_give_1 ?_
  refine lv_iload_n hx hb dX2_give_4 rfl (lv_at hl 1 rfl) ?_
  refine lv_iload_n hx hb dX2_give_5 rfl (lv_at hl 2 rfl) ?_
  refine lv_iload_n hx hb dX2_give_6 rfl (lv_at hl 3 rfl) ?_
  have hPc := hP.sub (ws' := [(a_holders, .inr (1, [.int 4, .ref ac])), (ac, .inl (cI, L, .inl fc))]) [1, 2] rfl
  refine rwVv (As := [.int d, .int k, .int i]) (rest := []) (wc := [(a_holders, .inr (1, [.int 4, .ref ac])), (ac, .inl (cI, L, .inl fc))]) (wr := [(h, .inr (2, [.ref a_holders, .ref a_taken])), (a_taken, .inl (cI, 96, .inl ft))]) S (v_put  (by omega) (by omega) (by omega) (hr) (by omega) (by omega)) (cwV 3 hts gX2_give_X1_put rfl rfl rfl ⟨rfl, hd_X1_put⟩ ⟨Nat.le_of_ble_eq_true rfl, Nat.le_of_ble_eq_true rfl⟩) hK hP hD hS hA [1, 2] [0, 3] rfl rfl (by decide +kernel) (by decide +kernel) (by decide +kernel) (va_recv hK.1 hPc (ci := 1) (q0 := 0) rfl rfl) rfl hl.1 rfl (Nat.le_of_ble_eq_true rfl) dX2_give_7 ⟨Nat.le_of_ble_eq_true rfl, Nat.le_of_ble_eq_true rfl⟩ (fun u_pu H locs hw_pu hP hD hS => ?_)
  obtain ⟨fc1_pu, rfl⟩ : ∃ z, z = u_pu := ⟨_, rfl⟩
  have hw_pu : InR fc1_pu L (-1) 24 := hw_pu
  have hP : va_P D vwCl [(h, .inr (2, [.ref a_holders, .ref a_taken])), (a_taken, .inl (cI, 96, .inl ft)), (a_holders, .inr (1, [.int 4, .ref ac])), (ac, .inl (cI, L, .inl fc1_pu))] H := hP
  have hD := asD hP hD
  refine lv_iload_n hx hb dX2_give_10 rfl (lv_at hl 3 rfl) ?_
  refine lv_iconst (v := (-1)) hx hb dX2_give_11 (by decide) ?_
  refine lv_icmp_eq (tgt := 29) hx hb dX2_give_12 (by decide) (fun c_1 => ?_) (fun c_1 => ?_)
  · have tc_1 := t_eq c_1
    exact hret (fc1_pu, ft) _ _ _ _ (show InR fc1_pu L (-1) 24 from hw_pu) (hP.sub [0, 2, 3, 1] rfl) (hD.sub [0, 2, 3, 1] (by decide +kernel) rfl) hS dX2_give_29
  · have tc_1 := t_neq c_1
    refine lv_aload_n hx hb dX2_give_15 rfl (lv_at hl 0 rfl) ?_
    refine va_get (D := D) (ci := 2) (v := .ref a_taken) (C := RX2) (T := TX2) (N := 2) hx hb hts in_v_give_X2 hown hK.1 hP 0 rfl rfl 1 (by decide) lk1 (fun _ h9 => h9) rfl dX2_give_16 ?_
    refine lv_iload_n hx hb dX2_give_19 rfl (lv_at hl 3 rfl) ?_
    refine lv_iconst (v := 4) hx hb dX2_give_20 (by decide) ?_
    refine lv_imul hx hb dX2_give_21 ?_
    refine lv_topi (fun x_2 ex_2 => ?_)
    first | have tx_2 := t_mulK kk4 ex_2 (by omega) (by omega) | skip
    refine lv_iload_n hx hb dX2_give_22 rfl (lv_at hl 2 rfl) ?_
    refine lv_iadd hx hb dX2_give_23 ?_
    refine lv_topi (fun x_3 ex_3 => ?_)
    first | have tx_3 := t_add ex_3 (by omega) (by omega) | skip
    refine lv_dup2_11 hx hb dX2_give_24 rfl rfl ?_
    refine va_iald hx hb hK.1 hP 1 0 rfl rfl (t_in (by omega) (by omega)) dX2_give_25 ?_
    refine lv_topi (fun y_4 ey_4 => ?_)
    refine lv_iconst (v := 1) hx hb dX2_give_26 (by decide) ?_
    refine lv_iadd hx hb dX2_give_27 ?_
    refine lv_topi (fun x_5 ex_5 => ?_)
    refine va_iast hx hb hK.1 hP hD hS 1 0 rfl rfl (t_in (by omega) (by omega)) dX2_give_28 (fun H locs hP hD hS => ?_)
    obtain ⟨g_6, eg_6⟩ : ∃ z : Nat → Int32, z = upd ft ((x_3 : Int32).toNatClampNeg) x_5 := ⟨_, rfl⟩
    rw [← eg_6] at hP hD
    have hP : va_P D vwCl [(h, .inr (2, [.ref a_holders, .ref a_taken])), (a_taken, .inl (cI, 96, .inl g_6)), (a_holders, .inr (1, [.int 4, .ref ac])), (ac, .inl (cI, L, .inl fc1_pu))] H := hP
    have hD := asD hP hD
    exact hret (fc1_pu, g_6) _ _ _ _ (show InR fc1_pu L (-1) 24 from hw_pu) (hP.sub [0, 2, 3, 1] rfl) (hD.sub [0, 2, 3, 1] (by decide +kernel) rfl) hS dX2_give_29

theorem in_v_replace_X2 : ∀ w ∈ wsX20, w ∈ wsX2_replace := tl_X2_replace_X2
set_option maxHeartbeats 8000000 in
set_option maxRecDepth 100000 in
theorem v_replace {l : Launch} {D : va_G} {cI cZ cB : ClassId} {sz : Nat} {h a_holders a_taken ac L hm ma_priests ma_barred ma_cameOn ma_absent ma_absentFrom ma_absentTo : Nat} {mv_size mv_rows : Int32} {fc ft mf_barred mf_cameOn mf_absent mf_absentFrom mf_absentTo : Nat → Int32} {d k : Int32} (hL : L < 65536) (hmv_size0 : 0 ≤ mv_size.toInt) (hmv_size1 : mv_size.toInt ≤ 24) (hmv_rows0 : 0 ≤ mv_rows.toInt) (hmv_rows1 : mv_rows.toInt ≤ 60) (hd : (d.toInt + 1) * 4 ≤ L) (hd0 : 0 ≤ d.toInt) (hk0 : 0 ≤ k.toInt) (hk1 : k.toInt < 4) (hr : InR fc L (-1) 24) : Met l yX2_replace wsX2_replace ({ frames := 5, cells := 0, slots := 0, locals := 115 }) (RW D cI cZ cB [.ref h, .ref hm, .int d, .int k] sz [(h, .inr (2, [.ref a_holders, .ref a_taken])), (a_holders, .inr (1, [.int 4, .ref ac])), (ac, .inl (cI, L, .inl fc)), (a_taken, .inl (cI, 96, .inl ft)), (hm, .inr (5, [.ref ma_priests, .ref ma_barred, .ref ma_cameOn, .ref ma_absent, .ref ma_absentFrom, .ref ma_absentTo, .int mv_size, .int mv_rows])), (ma_barred, .inl (cI, 24, .inl mf_barred)), (ma_cameOn, .inl (cI, 24, .inl mf_cameOn)), (ma_absent, .inl (cI, 60, .inl mf_absent)), (ma_absentFrom, .inl (cI, 60, .inl mf_absentFrom)), (ma_absentTo, .inl (cI, 60, .inl mf_absentTo))]) (va_Qi (fun (r : Int32) (u : (Nat → Int32) × (Nat → Int32)) => InR u.1 L (-1) 24) (BW D [(h, .inr (2, [.ref a_holders, .ref a_taken])), (a_holders, .inr (1, [.int 4, .ref ac])), (ac, .inl (cI, L, .inl fc)), (a_taken, .inl (cI, 96, .inl ft)), (hm, .inr (5, [.ref ma_priests, .ref ma_barred, .ref ma_cameOn, .ref ma_absent, .ref ma_absentFrom, .ref ma_absentTo, .int mv_size, .int mv_rows])), (ma_barred, .inl (cI, 24, .inl mf_barred)), (ma_cameOn, .inl (cI, 24, .inl mf_cameOn)), (ma_absent, .inl (cI, 60, .inl mf_absent)), (ma_absentFrom, .inl (cI, 60, .inl mf_absentFrom)), (ma_absentTo, .inl (cI, 60, .inl mf_absentTo))] sz (fun u : (Nat → Int32) × (Nat → Int32) => [(h, .inr (2, [.ref a_holders, .ref a_taken])), (a_holders, .inr (1, [.int 4, .ref ac])), (ac, .inl (cI, L, .inl u.1)), (a_taken, .inl (cI, 96, .inl u.2)), (hm, .inr (5, [.ref ma_priests, .ref ma_barred, .ref ma_cameOn, .ref ma_absent, .ref ma_absentFrom, .ref ma_absentTo, .int mv_size, .int mv_rows])), (ma_barred, .inl (cI, 24, .inl mf_barred)), (ma_cameOn, .inl (cI, 24, .inl mf_cameOn)), (ma_absent, .inl (cI, 60, .inl mf_absent)), (ma_absentFrom, .inl (cI, 60, .inl mf_absentFrom)), (ma_absentTo, .inl (cI, 60, .inl mf_absentTo))])) (va_A [(h, .inr (2, [.ref a_holders, .ref a_taken])), (a_holders, .inr (1, [.int 4, .ref ac])), (ac, .inl (cI, L, .inl fc)), (a_taken, .inl (cI, 96, .inl ft)), (hm, .inr (5, [.ref ma_priests, .ref ma_barred, .ref ma_cameOn, .ref ma_absent, .ref ma_absentFrom, .ref ma_absentTo, .int mv_size, .int mv_rows])), (ma_barred, .inl (cI, 24, .inl mf_barred)), (ma_cameOn, .inl (cI, 24, .inl mf_cameOn)), (ma_absent, .inl (cI, 60, .inl mf_absent)), (ma_absentFrom, .inl (cI, 60, .inl mf_absentFrom)), (ma_absentTo, .inl (cI, 60, .inl mf_absentTo))] sz)) 0 0 (va_A [(h, .inr (2, [.ref a_holders, .ref a_taken])), (a_holders, .inr (1, [.int 4, .ref ac])), (ac, .inl (cI, L, .inl fc)), (a_taken, .inl (cI, 96, .inl ft)), (hm, .inr (5, [.ref ma_priests, .ref ma_barred, .ref ma_cameOn, .ref ma_absent, .ref ma_absentFrom, .ref ma_absentTo, .int mv_size, .int mv_rows])), (ma_barred, .inl (cI, 24, .inl mf_barred)), (ma_cameOn, .inl (cI, 24, .inl mf_cameOn)), (ma_absent, .inl (cI, 60, .inl mf_absent)), (ma_absentFrom, .inl (cI, 60, .inl mf_absentFrom)), (ma_absentTo, .inl (cI, 60, .inl mf_absentTo))] sz) := by
  refine rw_ret (cc := cX2_replace) (maxL := 6) (ty := .int) (own := RX2) (by decide) rfl rfl (Nat.le_of_ble_eq_true rfl) ?_
  intro p e s m args below meth c Q A S hin hret hP hK hD hA hS ls hl
  obtain ⟨hx, hb, hml, hown, hts⟩ := id S
  have hl : lv_has ls 6 [(0, .ref h), (1, .ref hm), (2, .int d), (3, .int k)] := hl
  have kkm1 : (-1 : Int32).toInt = -1 := by decide
  have kk0 : (0 : Int32).toInt = 0 := by decide
  have kk1 : (1 : Int32).toInt = 1 := by decide
  have kk4 : (4 : Int32).toInt = 4 := by decide
  have lk0 := hts (.fieldLink RX2 22 "AbbeyHours$Duties" "taken" "[I") (mc_X2_replace_r1 _ (List.mem_of_getElem? (i := 0) rfl))
  refine lv_aload_n hx hb dX2_replace_0 rfl (lv_at hl 0 rfl) ?_
  refine lv_aload_n hx hb dX2_replace_1 rfl (lv_at hl 1 rfl) ?_
  refine lv_iload_n hx hb dX2_replace_2 rfl (lv_at hl 2 rfl) ?_
  refine lv_iload_n hx hb dX2_replace_3 rfl (lv_at hl 3 rfl) ?_
  have hPc := hP.sub (ws' := [(h, .inr (2, [.ref a_holders, .ref a_taken])), (a_holders, .inr (1, [.int 4, .ref ac])), (ac, .inl (cI, L, .inl fc)), (a_taken, .inl (cI, 96, .inl ft)), (hm, .inr (5, [.ref ma_priests, .ref ma_barred, .ref ma_cameOn, .ref ma_absent, .ref ma_absentFrom, .ref ma_absentTo, .int mv_size, .int mv_rows])), (ma_barred, .inl (cI, 24, .inl mf_barred)), (ma_cameOn, .inl (cI, 24, .inl mf_cameOn)), (ma_absent, .inl (cI, 60, .inl mf_absent)), (ma_absentFrom, .inl (cI, 60, .inl mf_absentFrom)), (ma_absentTo, .inl (cI, 60, .inl mf_absentTo))]) [0, 1, 2, 3, 4, 5, 6, 7, 8, 9] rfl
  refine roV (As := [.ref hm, .int d, .int k]) (rest := []) S (u_choose  (by omega) (by omega) (by omega) (by omega) (by omega) (by omega) (by omega)) (cwV 3 hts gX2_replace_X2_choose rfl rfl rfl ⟨rfl, hd_X2_choose⟩ ⟨Nat.le_of_ble_eq_true rfl, Nat.le_of_ble_eq_true rfl⟩) hK hPc (va_recv hK.1 hPc (ci := 2) (q0 := 0) rfl rfl) rfl hl.1 rfl (Nat.le_of_ble_eq_true rfl) dX2_replace_4 ⟨Nat.le_of_ble_eq_true rfl, Nat.le_of_ble_eq_true rfl⟩ (fun r_1 hw_1 => ?_)
  have hw_1 : r_1.toInt = -1 ∨ (0 ≤ r_1.toInt ∧ r_1.toInt < mv_size.toInt) := hw_1
  refine lv_istore (lv' := [(4, .int r_1), (0, .ref h), (1, .ref hm), (2, .int d), (3, .int k)]) hx hb dX2_replace_7 hl (by decide) rfl (fun ls hl => ?_)
  refine lv_aload_n hx hb dX2_replace_9 rfl (lv_at hl 1 rfl) ?_
  refine lv_iload_n hx hb dX2_replace_10 rfl (lv_at hl 3 rfl) ?_
  refine lv_iload_n hx hb dX2_replace_11 rfl (lv_at hl 4 rfl) ?_
  have hPc := hP.sub (ws' := [(h, .inr (2, [.ref a_holders, .ref a_taken])), (a_holders, .inr (1, [.int 4, .ref ac])), (ac, .inl (cI, L, .inl fc))]) [0, 1, 2] rfl
  refine roV (As := [.int d, .int k]) (rest := []) S (v_holder  (by omega) (hr)) (cwV 2 hts gX2_replace_X2_holder rfl rfl rfl ⟨rfl, hd_X2_holder⟩ ⟨Nat.le_of_ble_eq_true rfl, Nat.le_of_ble_eq_true rfl⟩) hK hPc (va_recv hK.1 hPc (ci := 2) (q0 := 0) rfl rfl) rfl hl.1 rfl (Nat.le_of_ble_eq_true rfl) dX2_replace_12 ⟨Nat.le_of_ble_eq_true rfl, Nat.le_of_ble_eq_true rfl⟩ (fun r_2 hw_2 => ?_)
  have hw_2 : -1 ≤ r_2.toInt ∧ r_2.toInt < 24 := hw_2
  refine lv_istore (lv' := [(5, .int r_2), (4, .int r_1), (0, .ref h), (1, .ref hm), (2, .int d), (3, .int k)]) hx hb dX2_replace_15 hl (by decide) rfl (fun ls hl => ?_)
  refine lv_iload hx hb dX2_replace_17 (lv_at hl 0 rfl) ?_
  refine lv_iconst (v := (-1)) hx hb dX2_replace_19 (by decide) ?_
  refine lv_icmp_eq (tgt := 38) hx hb dX2_replace_20 (by decide) (fun c_3 => ?_) (fun c_3 => ?_)
  · have tc_3 := t_eq c_3
    refine lv_aload_n hx hb dX2_replace_38 rfl (lv_at hl 2 rfl) ?_
    refine lv_iload_n hx hb dX2_replace_39 rfl (lv_at hl 4 rfl) ?_
    refine lv_iload_n hx hb dX2_replace_40 rfl (lv_at hl 5 rfl) ?_
    refine lv_iload hx hb dX2_replace_41 (lv_at hl 1 rfl) ?_
    have hPc := hP.sub (ws' := [(h, .inr (2, [.ref a_holders, .ref a_taken])), (a_holders, .inr (1, [.int 4, .ref ac])), (ac, .inl (cI, L, .inl fc)), (a_taken, .inl (cI, 96, .inl ft))]) [0, 1, 2, 3] rfl
    refine rwVv (As := [.int d, .int k, .int r_1]) (rest := []) (wc := [(h, .inr (2, [.ref a_holders, .ref a_taken])), (a_holders, .inr (1, [.int 4, .ref ac])), (ac, .inl (cI, L, .inl fc)), (a_taken, .inl (cI, 96, .inl ft))]) (wr := [(hm, .inr (5, [.ref ma_priests, .ref ma_barred, .ref ma_cameOn, .ref ma_absent, .ref ma_absentFrom, .ref ma_absentTo, .int mv_size, .int mv_rows])), (ma_barred, .inl (cI, 24, .inl mf_barred)), (ma_cameOn, .inl (cI, 24, .inl mf_cameOn)), (ma_absent, .inl (cI, 60, .inl mf_absent)), (ma_absentFrom, .inl (cI, 60, .inl mf_absentFrom)), (ma_absentTo, .inl (cI, 60, .inl mf_absentTo))]) S (v_give  (by omega) (by omega) (by omega) (by omega) (by omega) (by omega) (hr)) (cwV 3 hts gX2_replace_X2_give rfl rfl rfl ⟨rfl, hd_X2_give⟩ ⟨Nat.le_of_ble_eq_true rfl, Nat.le_of_ble_eq_true rfl⟩) hK hP hD hS hA [0, 1, 2, 3] [4, 5, 6, 7, 8, 9] rfl rfl (by decide +kernel) (by decide +kernel) (by decide +kernel) (va_recv hK.1 hPc (ci := 2) (q0 := 0) rfl rfl) rfl hl.1 rfl (Nat.le_of_ble_eq_true rfl) dX2_replace_43 ⟨Nat.le_of_ble_eq_true rfl, Nat.le_of_ble_eq_true rfl⟩ (fun u_gi H locs hw_gi hP hD hS => ?_)
    obtain ⟨fc1_gi, ft1_gi⟩ := u_gi
    have hw_gi : InR fc1_gi L (-1) 24 := hw_gi
    have hP : va_P D vwCl [(hm, .inr (5, [.ref ma_priests, .ref ma_barred, .ref ma_cameOn, .ref ma_absent, .ref ma_absentFrom, .ref ma_absentTo, .int mv_size, .int mv_rows])), (ma_barred, .inl (cI, 24, .inl mf_barred)), (ma_cameOn, .inl (cI, 24, .inl mf_cameOn)), (ma_absent, .inl (cI, 60, .inl mf_absent)), (ma_absentFrom, .inl (cI, 60, .inl mf_absentFrom)), (ma_absentTo, .inl (cI, 60, .inl mf_absentTo)), (h, .inr (2, [.ref a_holders, .ref a_taken])), (a_holders, .inr (1, [.int 4, .ref ac])), (ac, .inl (cI, L, .inl fc1_gi)), (a_taken, .inl (cI, 96, .inl ft1_gi))] H := hP
    have hD := asD hP hD
    refine lv_iload hx hb dX2_replace_46 (lv_at hl 1 rfl) ?_
    exact hret r_1 (fc1_gi, ft1_gi) _ _ _ _ (show InR fc1_gi L (-1) 24 from hw_gi) rfl (hP.sub [6, 7, 8, 9, 0, 1, 2, 3, 4, 5] rfl) (hD.sub [6, 7, 8, 9, 0, 1, 2, 3, 4, 5] (by decide +kernel) rfl) hS dX2_replace_48
  · have tc_3 := t_neq c_3
    refine lv_aload_n hx hb dX2_replace_23 rfl (lv_at hl 2 rfl) ?_
    refine va_get (D := D) (ci := 2) (v := .ref a_taken) (C := RX2) (T := TX2) (N := 2) hx hb hts in_v_replace_X2 hown hK.1 hP 0 rfl rfl 1 (by decide) lk0 (fun _ h9 => h9) rfl dX2_replace_24 ?_
    refine lv_iload hx hb dX2_replace_27 (lv_at hl 0 rfl) ?_
    refine lv_iconst (v := 4) hx hb dX2_replace_29 (by decide) ?_
    refine lv_imul hx hb dX2_replace_30 ?_
    refine lv_topi (fun x_4 ex_4 => ?_)
    first | have tx_4 := t_mulK kk4 ex_4 (by omega) (by omega) | skip
    refine lv_iload_n hx hb dX2_replace_31 rfl (lv_at hl 5 rfl) ?_
    refine lv_iadd hx hb dX2_replace_32 ?_
    refine lv_topi (fun x_5 ex_5 => ?_)
    first | have tx_5 := t_add ex_5 (by omega) (by omega) | skip
    refine lv_dup2_11 hx hb dX2_replace_33 rfl rfl ?_
    refine va_iald hx hb hK.1 hP 3 0 rfl rfl (t_in (by omega) (by omega)) dX2_replace_34 ?_
    refine lv_topi (fun y_6 ey_6 => ?_)
    refine lv_iconst (v := 1) hx hb dX2_replace_35 (by decide) ?_
    refine lv_isub hx hb dX2_replace_36 ?_
    refine lv_topi (fun x_7 ex_7 => ?_)
    refine va_iast hx hb hK.1 hP hD hS 3 0 rfl rfl (t_in (by omega) (by omega)) dX2_replace_37 (fun H locs hP hD hS => ?_)
    obtain ⟨g_8, eg_8⟩ : ∃ z : Nat → Int32, z = upd ft ((x_5 : Int32).toNatClampNeg) x_7 := ⟨_, rfl⟩
    rw [← eg_8] at hP hD
    have hP : va_P D vwCl [(h, .inr (2, [.ref a_holders, .ref a_taken])), (a_holders, .inr (1, [.int 4, .ref ac])), (ac, .inl (cI, L, .inl fc)), (a_taken, .inl (cI, 96, .inl g_8)), (hm, .inr (5, [.ref ma_priests, .ref ma_barred, .ref ma_cameOn, .ref ma_absent, .ref ma_absentFrom, .ref ma_absentTo, .int mv_size, .int mv_rows])), (ma_barred, .inl (cI, 24, .inl mf_barred)), (ma_cameOn, .inl (cI, 24, .inl mf_cameOn)), (ma_absent, .inl (cI, 60, .inl mf_absent)), (ma_absentFrom, .inl (cI, 60, .inl mf_absentFrom)), (ma_absentTo, .inl (cI, 60, .inl mf_absentTo))] H := hP
    have hD := asD hP hD
    refine lv_aload_n hx hb dX2_replace_38 rfl (lv_at hl 2 rfl) ?_
    refine lv_iload_n hx hb dX2_replace_39 rfl (lv_at hl 4 rfl) ?_
    refine lv_iload_n hx hb dX2_replace_40 rfl (lv_at hl 5 rfl) ?_
    refine lv_iload hx hb dX2_replace_41 (lv_at hl 1 rfl) ?_
    have hPc := hP.sub (ws' := [(h, .inr (2, [.ref a_holders, .ref a_taken])), (a_holders, .inr (1, [.int 4, .ref ac])), (ac, .inl (cI, L, .inl fc)), (a_taken, .inl (cI, 96, .inl g_8))]) [0, 1, 2, 3] rfl
    refine rwVv (As := [.int d, .int k, .int r_1]) (rest := []) (wc := [(h, .inr (2, [.ref a_holders, .ref a_taken])), (a_holders, .inr (1, [.int 4, .ref ac])), (ac, .inl (cI, L, .inl fc)), (a_taken, .inl (cI, 96, .inl g_8))]) (wr := [(hm, .inr (5, [.ref ma_priests, .ref ma_barred, .ref ma_cameOn, .ref ma_absent, .ref ma_absentFrom, .ref ma_absentTo, .int mv_size, .int mv_rows])), (ma_barred, .inl (cI, 24, .inl mf_barred)), (ma_cameOn, .inl (cI, 24, .inl mf_cameOn)), (ma_absent, .inl (cI, 60, .inl mf_absent)), (ma_absentFrom, .inl (cI, 60, .inl mf_absentFrom)), (ma_absentTo, .inl (cI, 60, .inl mf_absentTo))]) S (v_give  (by omega) (by omega) (by omega) (by omega) (by omega) (by omega) (hr)) (cwV 3 hts gX2_replace_X2_give rfl rfl rfl ⟨rfl, hd_X2_give⟩ ⟨Nat.le_of_ble_eq_true rfl, Nat.le_of_ble_eq_true rfl⟩) hK hP hD hS hA [0, 1, 2, 3] [4, 5, 6, 7, 8, 9] rfl rfl (by decide +kernel) (by decide +kernel) (by decide +kernel) (va_recv hK.1 hPc (ci := 2) (q0 := 0) rfl rfl) rfl hl.1 rfl (Nat.le_of_ble_eq_true rfl) dX2_replace_43 ⟨Nat.le_of_ble_eq_true rfl, Nat.le_of_ble_eq_true rfl⟩ (fun u_gi H locs hw_gi hP hD hS => ?_)
    obtain ⟨fc1_gi, ft1_gi⟩ := u_gi
    have hw_gi : InR fc1_gi L (-1) 24 := hw_gi
    have hP : va_P D vwCl [(hm, .inr (5, [.ref ma_priests, .ref ma_barred, .ref ma_cameOn, .ref ma_absent, .ref ma_absentFrom, .ref ma_absentTo, .int mv_size, .int mv_rows])), (ma_barred, .inl (cI, 24, .inl mf_barred)), (ma_cameOn, .inl (cI, 24, .inl mf_cameOn)), (ma_absent, .inl (cI, 60, .inl mf_absent)), (ma_absentFrom, .inl (cI, 60, .inl mf_absentFrom)), (ma_absentTo, .inl (cI, 60, .inl mf_absentTo)), (h, .inr (2, [.ref a_holders, .ref a_taken])), (a_holders, .inr (1, [.int 4, .ref ac])), (ac, .inl (cI, L, .inl fc1_gi)), (a_taken, .inl (cI, 96, .inl ft1_gi))] H := hP
    have hD := asD hP hD
    refine lv_iload hx hb dX2_replace_46 (lv_at hl 1 rfl) ?_
    exact hret r_1 (fc1_gi, ft1_gi) _ _ _ _ (show InR fc1_gi L (-1) 24 from hw_gi) rfl (hP.sub [6, 7, 8, 9, 0, 1, 2, 3, 4, 5] rfl) (hD.sub [6, 7, 8, 9, 0, 1, 2, 3, 4, 5] (by decide +kernel) rfl) hS dX2_replace_48

theorem in_v_value_X10 : ∀ w ∈ wsX100, w ∈ wsX10_value := tl_X10_value_X10
set_option maxHeartbeats 8000000 in
set_option maxRecDepth 100000 in
theorem v_value {l : Launch} {D : va_G} {cI cZ cB : ClassId} {h a_kinds a_places a_values : Nat} {v_size v_textLength : Int32} {f_values : Nat → Int32} {i : Int32} (hv_size0 : 0 ≤ v_size.toInt) (hv_size1 : v_size.toInt ≤ 97) : Met l yX10_value wsX10_value ({ frames := 0, cells := 0, slots := 0, locals := 0 }) (RO D cI cZ cB [.ref h, .int i] [(h, .inr (9, [.ref a_kinds, .ref a_places, .ref a_values, .int v_size, .int v_textLength])), (a_values, .inl (cI, 97, .inl f_values))]) (vp_Si (fun r : Int32 => True)) 0 0 (fun _ => False) := by
  refine ro_ret (cc := cX10_value) (maxL := 2) (ty := .int) (own := RX10) (by decide) rfl rfl (Nat.le_of_ble_eq_true rfl) ?_
  intro p e s m args below meth c Q S hret hP hK ls hl
  obtain ⟨hx, hb, hml, hown, hts⟩ := id S
  have hl : lv_has ls 2 [(0, .ref h), (1, .int i)] := hl
  have kk0 : (0 : Int32).toInt = 0 := by decide
  have lk0 := hts (.fieldLink RX10 21 "AbbeyHours$Tokens" "size" "I") (List.mem_cons_of_mem _ (List.mem_append_left _ (List.mem_of_getElem? (i := 0) rfl)))
  have lk1 := hts (.fieldLink RX10 18 "AbbeyHours$Tokens" "values" "[I") (List.mem_cons_of_mem _ (List.mem_append_left _ (List.mem_of_getElem? (i := 1) rfl)))
  refine lv_iload_n hx hb dX10_value_0 rfl (lv_at hl 1 rfl) ?_
  refine lv_if_lt (tgt := 21) hx hb dX10_value_1 (by decide) (fun c_1 => ?_) (fun c_1 => ?_)
  · have tc_1 := t_lt c_1
    refine lv_iconst (v := 0) hx hb dX10_value_21 (by decide) ?_
    exact hret 0 _ _ (show True from trivial) rfl dX10_value_22
  · have tc_1 := t_nlt c_1
    refine lv_iload_n hx hb dX10_value_4 rfl (lv_at hl 1 rfl) ?_
    refine lv_aload_n hx hb dX10_value_5 rfl (lv_at hl 0 rfl) ?_
    refine va_get (D := D) (ci := 9) (v := .int v_size) (C := RX10) (T := TX10) (N := 5) hx hb hts in_v_value_X10 hown hK.1 hP 0 rfl rfl 3 (by decide) lk0 (fun _ h9 => h9) rfl dX10_value_6 ?_
    refine lv_icmp_ge (tgt := 21) hx hb dX10_value_9 (by decide) (fun c_2 => ?_) (fun c_2 => ?_)
    · have tc_2 := t_le c_2
      refine lv_iconst (v := 0) hx hb dX10_value_21 (by decide) ?_
      exact hret 0 _ _ (show True from trivial) rfl dX10_value_22
    · have tc_2 := t_nle c_2
      refine lv_aload_n hx hb dX10_value_12 rfl (lv_at hl 0 rfl) ?_
      refine va_get (D := D) (ci := 9) (v := .ref a_values) (C := RX10) (T := TX10) (N := 5) hx hb hts in_v_value_X10 hown hK.1 hP 0 rfl rfl 2 (by decide) lk1 (fun _ h9 => h9) rfl dX10_value_13 ?_
      refine lv_iload_n hx hb dX10_value_16 rfl (lv_at hl 1 rfl) ?_
      refine va_iald hx hb hK.1 hP 1 0 rfl rfl (t_in (by omega) (by omega)) dX10_value_17 ?_
      refine lv_topi (fun y_3 ey_3 => ?_)
      refine lv_goto (tgt := 22) hx hb dX10_value_18 (by decide) ?_
      exact hret y_3 _ _ (show True from trivial) rfl dX10_value_22

theorem in_v_place_X10 : ∀ w ∈ wsX100, w ∈ wsX10_place := tl_X10_place_X10
set_option maxHeartbeats 8000000 in
set_option maxRecDepth 100000 in
theorem v_place {l : Launch} {D : va_G} {cI cZ cB : ClassId} {h a_kinds a_places a_values : Nat} {v_size v_textLength : Int32} {f_places : Nat → Int32} {i : Int32} (hv_size0 : 0 ≤ v_size.toInt) (hv_size1 : v_size.toInt ≤ 97) : Met l yX10_place wsX10_place ({ frames := 0, cells := 0, slots := 0, locals := 0 }) (RO D cI cZ cB [.ref h, .int i] [(h, .inr (9, [.ref a_kinds, .ref a_places, .ref a_values, .int v_size, .int v_textLength])), (a_places, .inl (cI, 97, .inl f_places))]) (vp_Si (fun r : Int32 => True)) 0 0 (fun _ => False) := by
  refine ro_ret (cc := cX10_place) (maxL := 2) (ty := .int) (own := RX10) (by decide) rfl rfl (Nat.le_of_ble_eq_true rfl) ?_
  intro p e s m args below meth c Q S hret hP hK ls hl
  obtain ⟨hx, hb, hml, hown, hts⟩ := id S
  have hl : lv_has ls 2 [(0, .ref h), (1, .int i)] := hl
  have kk0 : (0 : Int32).toInt = 0 := by decide
  have lk0 := hts (.fieldLink RX10 25 "AbbeyHours$Tokens" "textLength" "I") (List.mem_cons_of_mem _ (List.mem_append_left _ (List.mem_of_getElem? (i := 2) rfl)))
  have lk1 := hts (.fieldLink RX10 21 "AbbeyHours$Tokens" "size" "I") (List.mem_cons_of_mem _ (List.mem_append_left _ (List.mem_of_getElem? (i := 0) rfl)))
  have lk2 := hts (.fieldLink RX10 15 "AbbeyHours$Tokens" "places" "[I") (List.mem_cons_of_mem _ (List.mem_append_left _ (List.mem_of_getElem? (i := 1) rfl)))
  refine lv_iload_n hx hb dX10_place_0 rfl (lv_at hl 1 rfl) ?_
  refine lv_if_lt (tgt := 21) hx hb dX10_place_1 (by decide) (fun c_1 => ?_) (fun c_1 => ?_)
  · have tc_1 := t_lt c_1
    refine lv_aload_n hx hb dX10_place_21 rfl (lv_at hl 0 rfl) ?_
    refine va_get (D := D) (ci := 9) (v := .int v_textLength) (C := RX10) (T := TX10) (N := 5) hx hb hts in_v_place_X10 hown hK.1 hP 0 rfl rfl 4 (by decide) lk0 (fun _ h9 => h9) rfl dX10_place_22 ?_
    exact hret v_textLength _ _ (show True from trivial) rfl dX10_place_25
  · have tc_1 := t_nlt c_1
    refine lv_iload_n hx hb dX10_place_4 rfl (lv_at hl 1 rfl) ?_
    refine lv_aload_n hx hb dX10_place_5 rfl (lv_at hl 0 rfl) ?_
    refine va_get (D := D) (ci := 9) (v := .int v_size) (C := RX10) (T := TX10) (N := 5) hx hb hts in_v_place_X10 hown hK.1 hP 0 rfl rfl 3 (by decide) lk1 (fun _ h9 => h9) rfl dX10_place_6 ?_
    refine lv_icmp_ge (tgt := 21) hx hb dX10_place_9 (by decide) (fun c_2 => ?_) (fun c_2 => ?_)
    · have tc_2 := t_le c_2
      refine lv_aload_n hx hb dX10_place_21 rfl (lv_at hl 0 rfl) ?_
      refine va_get (D := D) (ci := 9) (v := .int v_textLength) (C := RX10) (T := TX10) (N := 5) hx hb hts in_v_place_X10 hown hK.1 hP 0 rfl rfl 4 (by decide) lk0 (fun _ h9 => h9) rfl dX10_place_22 ?_
      exact hret v_textLength _ _ (show True from trivial) rfl dX10_place_25
    · have tc_2 := t_nle c_2
      refine lv_aload_n hx hb dX10_place_12 rfl (lv_at hl 0 rfl) ?_
      refine va_get (D := D) (ci := 9) (v := .ref a_places) (C := RX10) (T := TX10) (N := 5) hx hb hts in_v_place_X10 hown hK.1 hP 0 rfl rfl 1 (by decide) lk2 (fun _ h9 => h9) rfl dX10_place_13 ?_
      refine lv_iload_n hx hb dX10_place_16 rfl (lv_at hl 1 rfl) ?_
      refine va_iald hx hb hK.1 hP 1 0 rfl rfl (t_in (by omega) (by omega)) dX10_place_17 ?_
      refine lv_topi (fun y_3 ey_3 => ?_)
      refine lv_goto (tgt := 25) hx hb dX10_place_18 (by decide) ?_
      exact hret y_3 _ _ (show True from trivial) rfl dX10_place_25

theorem in_v_accept_X6 : ∀ w ∈ wsX60, w ∈ wsX6_accept := tl_X6_accept_X6
set_option maxHeartbeats 8000000 in
set_option maxRecDepth 100000 in
theorem v_accept {l : Launch} {D : va_G} {cI cZ cB : ClassId} {sz : Nat} {h a_tokens a_kinds a_firsts a_seconds ta_kinds ta_places ta_values : Nat} {v_size v_next v_first v_second tv_size tv_textLength : Int32} {tf_kinds : Nat → Int32} {k : Int32} (htv_size0 : 0 ≤ tv_size.toInt) (htv_size1 : tv_size.toInt ≤ 97) : Met l yX6_accept wsX6_accept ({ frames := 1, cells := 0, slots := 0, locals := 21 }) (RW D cI cZ cB [.ref h, .int k] sz [(h, .inr (6, [.ref a_tokens, .ref a_kinds, .ref a_firsts, .ref a_seconds, .int v_size, .int v_next, .int v_first, .int v_second])), (a_tokens, .inr (9, [.ref ta_kinds, .ref ta_places, .ref ta_values, .int tv_size, .int tv_textLength])), (ta_kinds, .inl (cI, 97, .inl tf_kinds))]) (va_Qi (fun (r : Int32) (u : Int32) => (r.toInt = 0 ∨ r.toInt = 1)) (BW D [(h, .inr (6, [.ref a_tokens, .ref a_kinds, .ref a_firsts, .ref a_seconds, .int v_size, .int v_next, .int v_first, .int v_second])), (a_tokens, .inr (9, [.ref ta_kinds, .ref ta_places, .ref ta_values, .int tv_size, .int tv_textLength])), (ta_kinds, .inl (cI, 97, .inl tf_kinds))] sz (fun u : Int32 => [(h, .inr (6, [.ref a_tokens, .ref a_kinds, .ref a_firsts, .ref a_seconds, .int v_size, .int u, .int v_first, .int v_second])), (a_tokens, .inr (9, [.ref ta_kinds, .ref ta_places, .ref ta_values, .int tv_size, .int tv_textLength])), (ta_kinds, .inl (cI, 97, .inl tf_kinds))])) (va_A [(h, .inr (6, [.ref a_tokens, .ref a_kinds, .ref a_firsts, .ref a_seconds, .int v_size, .int v_next, .int v_first, .int v_second])), (a_tokens, .inr (9, [.ref ta_kinds, .ref ta_places, .ref ta_values, .int tv_size, .int tv_textLength])), (ta_kinds, .inl (cI, 97, .inl tf_kinds))] sz)) 0 0 (va_A [(h, .inr (6, [.ref a_tokens, .ref a_kinds, .ref a_firsts, .ref a_seconds, .int v_size, .int v_next, .int v_first, .int v_second])), (a_tokens, .inr (9, [.ref ta_kinds, .ref ta_places, .ref ta_values, .int tv_size, .int tv_textLength])), (ta_kinds, .inl (cI, 97, .inl tf_kinds))] sz) := by
  refine rw_ret (cc := cX6_accept) (maxL := 2) (ty := .boolean) (own := RX6) (by decide) rfl rfl (Nat.le_of_ble_eq_true rfl) ?_
  intro p e s m args below meth c Q A S hin hret hP hK hD hA hS ls hl
  obtain ⟨hx, hb, hml, hown, hts⟩ := id S
  have hl : lv_has ls 2 [(0, .ref h), (1, .int k)] := hl
  have kk0 : (0 : Int32).toInt = 0 := by decide
  have kk1 : (1 : Int32).toInt = 1 := by decide
  have lk0 := hts (.fieldLink RX6 12 "AbbeyHours$RuleReader" "tokens" "LAbbeyHours$Tokens;") (List.mem_cons_of_mem _ (List.mem_append_left _ (List.mem_append_left _ (List.mem_of_getElem? (i := 0) rfl))))
  have lk1 := hts (.fieldLink RX6 32 "AbbeyHours$RuleReader" "next" "I") (List.mem_cons_of_mem _ (List.mem_append_left _ (List.mem_append_left _ (List.mem_of_getElem? (i := 1) rfl))))
  refine lv_aload_n hx hb dX6_accept_0 rfl (lv_at hl 0 rfl) ?_
  refine va_get (D := D) (ci := 6) (v := .ref a_tokens) (C := RX6) (T := TX6) (N := 8) hx hb hts in_v_accept_X6 hown hK.1 hP 0 rfl rfl 0 (by decide) lk0 (fun _ h9 => h9) rfl dX6_accept_1 ?_
  refine lv_aload_n hx hb dX6_accept_4 rfl (lv_at hl 0 rfl) ?_
  refine va_get (D := D) (ci := 6) (v := .int v_next) (C := RX6) (T := TX6) (N := 8) hx hb hts in_v_accept_X6 hown hK.1 hP 0 rfl rfl 5 (by decide) lk1 (fun _ h9 => h9) rfl dX6_accept_5 ?_
  have hPc := hP.sub (ws' := [(a_tokens, .inr (9, [.ref ta_kinds, .ref ta_places, .ref ta_values, .int tv_size, .int tv_textLength])), (ta_kinds, .inl (cI, 97, .inl tf_kinds))]) [1, 2] rfl
  refine roV (As := [.int v_next]) (rest := []) S (tk_kind  (by omega) (by omega)) (cwV 1 hts gX6_accept_X10_kind rfl rfl rfl ⟨rfl, hd_X10_kind⟩ ⟨Nat.le_of_ble_eq_true rfl, Nat.le_of_ble_eq_true rfl⟩) hK hPc (va_recv hK.1 hPc (ci := 9) (q0 := 0) rfl rfl) rfl hl.1 rfl (Nat.le_of_ble_eq_true rfl) dX6_accept_8 ⟨Nat.le_of_ble_eq_true rfl, Nat.le_of_ble_eq_true rfl⟩ (fun r_1 hw_1 => ?_)
  have hw_1 : tv_size.toInt = 0 → r_1.toInt = 0 := hw_1
  refine lv_iload_n hx hb dX6_accept_11 rfl (lv_at hl 1 rfl) ?_
  refine lv_icmp_eq (tgt := 17) hx hb dX6_accept_12 (by decide) (fun c_2 => ?_) (fun c_2 => ?_)
  · have tc_2 := t_eq c_2
    refine lv_aload_n hx hb dX6_accept_17 rfl (lv_at hl 0 rfl) ?_
    refine lv_dup hx hb dX6_accept_18 rfl ?_
    refine va_get (D := D) (ci := 6) (v := .int v_next) (C := RX6) (T := TX6) (N := 8) hx hb hts in_v_accept_X6 hown hK.1 hP 0 rfl rfl 5 (by decide) lk1 (fun _ h9 => h9) rfl dX6_accept_19 ?_
    refine lv_iconst (v := 1) hx hb dX6_accept_22 (by decide) ?_
    refine lv_iadd hx hb dX6_accept_23 ?_
    refine lv_topi (fun x_3 ex_3 => ?_)
    refine va_put (D := D) (ci := 6) (v := .int x_3) (ty := .int) (C := RX6) (T := TX6) (N := 8) hx hb hts in_v_accept_X6 tyX6 tyX6_ok nmX6 hown hK.1 hP hD hS 0 rfl rfl 5 (by decide) lk1 (fun _ h9 => h9) rfl (by decide +kernel) rfl rfl (Nat.le_of_ble_eq_true rfl) dX6_accept_24 (fun H locs hP hD hS => ?_)
    have hP : va_P D vwCl [(h, .inr (6, [.ref a_tokens, .ref a_kinds, .ref a_firsts, .ref a_seconds, .int v_size, .int x_3, .int v_first, .int v_second])), (a_tokens, .inr (9, [.ref ta_kinds, .ref ta_places, .ref ta_values, .int tv_size, .int tv_textLength])), (ta_kinds, .inl (cI, 97, .inl tf_kinds))] H := hP
    have hD := asD hP hD
    refine lv_iconst (v := 1) hx hb dX6_accept_27 (by decide) ?_
    exact hret 1 x_3 _ _ _ _ (show ((1 : Int32).toInt = 0 ∨ (1 : Int32).toInt = 1) from by omega) rfl (hP.sub [0, 1, 2] rfl) (hD.sub [0, 1, 2] (by decide +kernel) rfl) hS dX6_accept_28
  · have tc_2 := t_neq c_2
    refine lv_iconst (v := 0) hx hb dX6_accept_15 (by decide) ?_
    exact hret 0 v_next _ _ _ _ (show ((0 : Int32).toInt = 0 ∨ (0 : Int32).toInt = 1) from by omega) rfl (hP.sub [0, 1, 2] rfl) (hD.sub [0, 1, 2] (by decide +kernel) rfl) hS dX6_accept_16

theorem in_v_acceptFirst_X6 : ∀ w ∈ wsX60, w ∈ wsX6_acceptFirst := tl_X6_acceptFirst_X6
set_option maxHeartbeats 8000000 in
set_option maxRecDepth 100000 in
theorem v_acceptFirst {l : Launch} {D : va_G} {cI cZ cB : ClassId} {sz : Nat} {h a_tokens a_kinds a_firsts a_seconds ta_kinds ta_places ta_values : Nat} {v_size v_next v_first v_second tv_size tv_textLength : Int32} {tf_kinds tf_values : Nat → Int32}  (htv_size0 : 0 ≤ tv_size.toInt) (htv_size1 : tv_size.toInt ≤ 97) : Met l yX6_acceptFirst wsX6_acceptFirst ({ frames := 2, cells := 0, slots := 0, locals := 42 }) (RW D cI cZ cB [.ref h] sz [(h, .inr (6, [.ref a_tokens, .ref a_kinds, .ref a_firsts, .ref a_seconds, .int v_size, .int v_next, .int v_first, .int v_second])), (a_tokens, .inr (9, [.ref ta_kinds, .ref ta_places, .ref ta_values, .int tv_size, .int tv_textLength])), (ta_kinds, .inl (cI, 97, .inl tf_kinds)), (ta_values, .inl (cI, 97, .inl tf_values))]) (va_Qi (fun (r : Int32) (u : Int32 × Int32) => (r.toInt = 0 ∨ r.toInt = 1)) (BW D [(h, .inr (6, [.ref a_tokens, .ref a_kinds, .ref a_firsts, .ref a_seconds, .int v_size, .int v_next, .int v_first, .int v_second])), (a_tokens, .inr (9, [.ref ta_kinds, .ref ta_places, .ref ta_values, .int tv_size, .int tv_textLength])), (ta_kinds, .inl (cI, 97, .inl tf_kinds)), (ta_values, .inl (cI, 97, .inl tf_values))] sz (fun u : Int32 × Int32 => [(h, .inr (6, [.ref a_tokens, .ref a_kinds, .ref a_firsts, .ref a_seconds, .int v_size, .int u.1, .int u.2, .int v_second])), (a_tokens, .inr (9, [.ref ta_kinds, .ref ta_places, .ref ta_values, .int tv_size, .int tv_textLength])), (ta_kinds, .inl (cI, 97, .inl tf_kinds)), (ta_values, .inl (cI, 97, .inl tf_values))])) (va_A [(h, .inr (6, [.ref a_tokens, .ref a_kinds, .ref a_firsts, .ref a_seconds, .int v_size, .int v_next, .int v_first, .int v_second])), (a_tokens, .inr (9, [.ref ta_kinds, .ref ta_places, .ref ta_values, .int tv_size, .int tv_textLength])), (ta_kinds, .inl (cI, 97, .inl tf_kinds)), (ta_values, .inl (cI, 97, .inl tf_values))] sz)) 0 0 (va_A [(h, .inr (6, [.ref a_tokens, .ref a_kinds, .ref a_firsts, .ref a_seconds, .int v_size, .int v_next, .int v_first, .int v_second])), (a_tokens, .inr (9, [.ref ta_kinds, .ref ta_places, .ref ta_values, .int tv_size, .int tv_textLength])), (ta_kinds, .inl (cI, 97, .inl tf_kinds)), (ta_values, .inl (cI, 97, .inl tf_values))] sz) := by
  refine rw_ret (cc := cX6_acceptFirst) (maxL := 1) (ty := .boolean) (own := RX6) (by decide) rfl rfl (Nat.le_of_ble_eq_true rfl) ?_
  intro p e s m args below meth c Q A S hin hret hP hK hD hA hS ls hl
  obtain ⟨hx, hb, hml, hown, hts⟩ := id S
  have hl : lv_has ls 1 [(0, .ref h)] := hl
  have kk0 : (0 : Int32).toInt = 0 := by decide
  have kk3 : (3 : Int32).toInt = 3 := by decide
  have lk0 := hts (.fieldLink RX6 12 "AbbeyHours$RuleReader" "tokens" "LAbbeyHours$Tokens;") (List.mem_cons_of_mem _ (List.mem_append_left _ (List.mem_append_left _ (List.mem_of_getElem? (i := 0) rfl))))
  have lk1 := hts (.fieldLink RX6 32 "AbbeyHours$RuleReader" "next" "I") (List.mem_cons_of_mem _ (List.mem_append_left _ (List.mem_append_left _ (List.mem_of_getElem? (i := 1) rfl))))
  have lk2 := hts (.fieldLink RX6 50 "AbbeyHours$RuleReader" "first" "I") (List.mem_cons_of_mem _ (List.mem_append_left _ (List.mem_append_left _ (List.mem_of_getElem? (i := 2) rfl))))
  refine lv_aload_n hx hb dX6_acceptFirst_0 rfl (lv_at hl 0 rfl) ?_
  refine lv_aload_n hx hb dX6_acceptFirst_1 rfl (lv_at hl 0 rfl) ?_
  refine va_get (D := D) (ci := 6) (v := .ref a_tokens) (C := RX6) (T := TX6) (N := 8) hx hb hts in_v_acceptFirst_X6 hown hK.1 hP 0 rfl rfl 0 (by decide) lk0 (fun _ h9 => h9) rfl dX6_acceptFirst_2 ?_
  refine lv_aload_n hx hb dX6_acceptFirst_5 rfl (lv_at hl 0 rfl) ?_
  refine va_get (D := D) (ci := 6) (v := .int v_next) (C := RX6) (T := TX6) (N := 8) hx hb hts in_v_acceptFirst_X6 hown hK.1 hP 0 rfl rfl 5 (by decide) lk1 (fun _ h9 => h9) rfl dX6_acceptFirst_6 ?_
  have hPc := hP.sub (ws' := [(a_tokens, .inr (9, [.ref ta_kinds, .ref ta_places, .ref ta_values, .int tv_size, .int tv_textLength])), (ta_values, .inl (cI, 97, .inl tf_values))]) [1, 3] rfl
  refine roV (As := [.int v_next]) (rest := [.ref h]) S (v_value  (by omega) (by omega)) (cwV 1 hts gX6_acceptFirst_X10_value rfl rfl rfl ⟨rfl, hd_X10_value⟩ ⟨Nat.le_of_ble_eq_true rfl, Nat.le_of_ble_eq_true rfl⟩) hK hPc (va_recv hK.1 hPc (ci := 9) (q0 := 0) rfl rfl) rfl hl.1 rfl (Nat.le_of_ble_eq_true rfl) dX6_acceptFirst_9 ⟨Nat.le_of_ble_eq_true rfl, Nat.le_of_ble_eq_true rfl⟩ (fun r_1 hw_1 => ?_)
  have hw_1 : True := hw_1
  refine va_put (D := D) (ci := 6) (v := .int r_1) (ty := .int) (C := RX6) (T := TX6) (N := 8) hx hb hts in_v_acceptFirst_X6 tyX6 tyX6_ok nmX6 hown hK.1 hP hD hS 0 rfl rfl 6 (by decide) lk2 (fun _ h9 => h9) rfl (by decide +kernel) rfl rfl (Nat.le_of_ble_eq_true rfl) dX6_acceptFirst_12 (fun H locs hP hD hS => ?_)
  have hP : va_P D vwCl [(h, .inr (6, [.ref a_tokens, .ref a_kinds, .ref a_firsts, .ref a_seconds, .int v_size, .int v_next, .int r_1, .int v_second])), (a_tokens, .inr (9, [.ref ta_kinds, .ref ta_places, .ref ta_values, .int tv_size, .int tv_textLength])), (ta_kinds, .inl (cI, 97, .inl tf_kinds)), (ta_values, .inl (cI, 97, .inl tf_values))] H := hP
  have hD := asD hP hD
  refine lv_aload_n hx hb dX6_acceptFirst_15 rfl (lv_at hl 0 rfl) ?_
  refine lv_iconst (v := 3) hx hb dX6_acceptFirst_16 (by decide) ?_
  have hPc := hP.sub (ws' := [(h, .inr (6, [.ref a_tokens, .ref a_kinds, .ref a_firsts, .ref a_seconds, .int v_size, .int v_next, .int r_1, .int v_second])), (a_tokens, .inr (9, [.ref ta_kinds, .ref ta_places, .ref ta_values, .int tv_size, .int tv_textLength])), (ta_kinds, .inl (cI, 97, .inl tf_kinds))]) [0, 1, 2] rfl
  refine rwV (As := [.int 3]) (rest := []) (wc := [(h, .inr (6, [.ref a_tokens, .ref a_kinds, .ref a_firsts, .ref a_seconds, .int v_size, .int v_next, .int r_1, .int v_second])), (a_tokens, .inr (9, [.ref ta_kinds, .ref ta_places, .ref ta_values, .int tv_size, .int tv_textLength])), (ta_kinds, .inl (cI, 97, .inl tf_kinds))]) (wr := [(ta_values, .inl (cI, 97, .inl tf_values))]) S (v_accept  (by omega) (by omega)) (cwV 1 hts gX6_acceptFirst_X6_accept rfl rfl rfl ⟨rfl, hd_X6_accept⟩ ⟨Nat.le_of_ble_eq_true rfl, Nat.le_of_ble_eq_true rfl⟩) hK hP hD hS hA [0, 1, 2] [3] rfl rfl (by decide +kernel) (by decide +kernel) (by decide +kernel) (va_recv hK.1 hPc (ci := 6) (q0 := 0) rfl rfl) rfl hl.1 rfl (Nat.le_of_ble_eq_true rfl) dX6_acceptFirst_17 ⟨Nat.le_of_ble_eq_true rfl, Nat.le_of_ble_eq_true rfl⟩ (fun r_2 u_2 H locs hw_2 hP hD hS => ?_)
  obtain ⟨n1_2, rfl⟩ : ∃ z, z = u_2 := ⟨_, rfl⟩
  have hw_2 : (r_2.toInt = 0 ∨ r_2.toInt = 1) := hw_2
  have hP : va_P D vwCl [(ta_values, .inl (cI, 97, .inl tf_values)), (h, .inr (6, [.ref a_tokens, .ref a_kinds, .ref a_firsts, .ref a_seconds, .int v_size, .int n1_2, .int r_1, .int v_second])), (a_tokens, .inr (9, [.ref ta_kinds, .ref ta_places, .ref ta_values, .int tv_size, .int tv_textLength])), (ta_kinds, .inl (cI, 97, .inl tf_kinds))] H := hP
  have hD := asD hP hD
  exact hret r_2 (n1_2, r_1) _ _ _ _ (show (r_2.toInt = 0 ∨ r_2.toInt = 1) from by omega) (zb (by omega)) (hP.sub [1, 2, 3, 0] rfl) (hD.sub [1, 2, 3, 0] (by decide +kernel) rfl) hS dX6_acceptFirst_20

theorem in_v_acceptSecond_X6 : ∀ w ∈ wsX60, w ∈ wsX6_acceptSecond := tl_X6_acceptSecond_X6
set_option maxHeartbeats 8000000 in
set_option maxRecDepth 100000 in
theorem v_acceptSecond {l : Launch} {D : va_G} {cI cZ cB : ClassId} {sz : Nat} {h a_tokens a_kinds a_firsts a_seconds ta_kinds ta_places ta_values : Nat} {v_size v_next v_first v_second tv_size tv_textLength : Int32} {tf_kinds tf_values : Nat → Int32}  (htv_size0 : 0 ≤ tv_size.toInt) (htv_size1 : tv_size.toInt ≤ 97) : Met l yX6_acceptSecond wsX6_acceptSecond ({ frames := 2, cells := 0, slots := 0, locals := 42 }) (RW D cI cZ cB [.ref h] sz [(h, .inr (6, [.ref a_tokens, .ref a_kinds, .ref a_firsts, .ref a_seconds, .int v_size, .int v_next, .int v_first, .int v_second])), (a_tokens, .inr (9, [.ref ta_kinds, .ref ta_places, .ref ta_values, .int tv_size, .int tv_textLength])), (ta_kinds, .inl (cI, 97, .inl tf_kinds)), (ta_values, .inl (cI, 97, .inl tf_values))]) (va_Qi (fun (r : Int32) (u : Int32 × Int32) => (r.toInt = 0 ∨ r.toInt = 1)) (BW D [(h, .inr (6, [.ref a_tokens, .ref a_kinds, .ref a_firsts, .ref a_seconds, .int v_size, .int v_next, .int v_first, .int v_second])), (a_tokens, .inr (9, [.ref ta_kinds, .ref ta_places, .ref ta_values, .int tv_size, .int tv_textLength])), (ta_kinds, .inl (cI, 97, .inl tf_kinds)), (ta_values, .inl (cI, 97, .inl tf_values))] sz (fun u : Int32 × Int32 => [(h, .inr (6, [.ref a_tokens, .ref a_kinds, .ref a_firsts, .ref a_seconds, .int v_size, .int u.1, .int v_first, .int u.2])), (a_tokens, .inr (9, [.ref ta_kinds, .ref ta_places, .ref ta_values, .int tv_size, .int tv_textLength])), (ta_kinds, .inl (cI, 97, .inl tf_kinds)), (ta_values, .inl (cI, 97, .inl tf_values))])) (va_A [(h, .inr (6, [.ref a_tokens, .ref a_kinds, .ref a_firsts, .ref a_seconds, .int v_size, .int v_next, .int v_first, .int v_second])), (a_tokens, .inr (9, [.ref ta_kinds, .ref ta_places, .ref ta_values, .int tv_size, .int tv_textLength])), (ta_kinds, .inl (cI, 97, .inl tf_kinds)), (ta_values, .inl (cI, 97, .inl tf_values))] sz)) 0 0 (va_A [(h, .inr (6, [.ref a_tokens, .ref a_kinds, .ref a_firsts, .ref a_seconds, .int v_size, .int v_next, .int v_first, .int v_second])), (a_tokens, .inr (9, [.ref ta_kinds, .ref ta_places, .ref ta_values, .int tv_size, .int tv_textLength])), (ta_kinds, .inl (cI, 97, .inl tf_kinds)), (ta_values, .inl (cI, 97, .inl tf_values))] sz) := by
  refine rw_ret (cc := cX6_acceptSecond) (maxL := 1) (ty := .boolean) (own := RX6) (by decide) rfl rfl (Nat.le_of_ble_eq_true rfl) ?_
  intro p e s m args below meth c Q A S hin hret hP hK hD hA hS ls hl
  obtain ⟨hx, hb, hml, hown, hts⟩ := id S
  have hl : lv_has ls 1 [(0, .ref h)] := hl
  have kk0 : (0 : Int32).toInt = 0 := by decide
  have kk3 : (3 : Int32).toInt = 3 := by decide
  have lk0 := hts (.fieldLink RX6 12 "AbbeyHours$RuleReader" "tokens" "LAbbeyHours$Tokens;") (List.mem_cons_of_mem _ (List.mem_append_left _ (List.mem_append_left _ (List.mem_of_getElem? (i := 0) rfl))))
  have lk1 := hts (.fieldLink RX6 32 "AbbeyHours$RuleReader" "next" "I") (List.mem_cons_of_mem _ (List.mem_append_left _ (List.mem_append_left _ (List.mem_of_getElem? (i := 1) rfl))))
  have lk2 := hts (.fieldLink RX6 53 "AbbeyHours$RuleReader" "second" "I") (List.mem_cons_of_mem _ (List.mem_append_left _ (List.mem_append_left _ (List.mem_of_getElem? (i := 2) rfl))))
  refine lv_aload_n hx hb dX6_acceptSecond_0 rfl (lv_at hl 0 rfl) ?_
  refine lv_aload_n hx hb dX6_acceptSecond_1 rfl (lv_at hl 0 rfl) ?_
  refine va_get (D := D) (ci := 6) (v := .ref a_tokens) (C := RX6) (T := TX6) (N := 8) hx hb hts in_v_acceptSecond_X6 hown hK.1 hP 0 rfl rfl 0 (by decide) lk0 (fun _ h9 => h9) rfl dX6_acceptSecond_2 ?_
  refine lv_aload_n hx hb dX6_acceptSecond_5 rfl (lv_at hl 0 rfl) ?_
  refine va_get (D := D) (ci := 6) (v := .int v_next) (C := RX6) (T := TX6) (N := 8) hx hb hts in_v_acceptSecond_X6 hown hK.1 hP 0 rfl rfl 5 (by decide) lk1 (fun _ h9 => h9) rfl dX6_acceptSecond_6 ?_
  have hPc := hP.sub (ws' := [(a_tokens, .inr (9, [.ref ta_kinds, .ref ta_places, .ref ta_values, .int tv_size, .int tv_textLength])), (ta_values, .inl (cI, 97, .inl tf_values))]) [1, 3] rfl
  refine roV (As := [.int v_next]) (rest := [.ref h]) S (v_value  (by omega) (by omega)) (cwV 1 hts gX6_acceptSecond_X10_value rfl rfl rfl ⟨rfl, hd_X10_value⟩ ⟨Nat.le_of_ble_eq_true rfl, Nat.le_of_ble_eq_true rfl⟩) hK hPc (va_recv hK.1 hPc (ci := 9) (q0 := 0) rfl rfl) rfl hl.1 rfl (Nat.le_of_ble_eq_true rfl) dX6_acceptSecond_9 ⟨Nat.le_of_ble_eq_true rfl, Nat.le_of_ble_eq_true rfl⟩ (fun r_1 hw_1 => ?_)
  have hw_1 : True := hw_1
  refine va_put (D := D) (ci := 6) (v := .int r_1) (ty := .int) (C := RX6) (T := TX6) (N := 8) hx hb hts in_v_acceptSecond_X6 tyX6 tyX6_ok nmX6 hown hK.1 hP hD hS 0 rfl rfl 7 (by decide) lk2 (fun _ h9 => h9) rfl (by decide +kernel) rfl rfl (Nat.le_of_ble_eq_true rfl) dX6_acceptSecond_12 (fun H locs hP hD hS => ?_)
  have hP : va_P D vwCl [(h, .inr (6, [.ref a_tokens, .ref a_kinds, .ref a_firsts, .ref a_seconds, .int v_size, .int v_next, .int v_first, .int r_1])), (a_tokens, .inr (9, [.ref ta_kinds, .ref ta_places, .ref ta_values, .int tv_size, .int tv_textLength])), (ta_kinds, .inl (cI, 97, .inl tf_kinds)), (ta_values, .inl (cI, 97, .inl tf_values))] H := hP
  have hD := asD hP hD
  refine lv_aload_n hx hb dX6_acceptSecond_15 rfl (lv_at hl 0 rfl) ?_
  refine lv_iconst (v := 3) hx hb dX6_acceptSecond_16 (by decide) ?_
  have hPc := hP.sub (ws' := [(h, .inr (6, [.ref a_tokens, .ref a_kinds, .ref a_firsts, .ref a_seconds, .int v_size, .int v_next, .int v_first, .int r_1])), (a_tokens, .inr (9, [.ref ta_kinds, .ref ta_places, .ref ta_values, .int tv_size, .int tv_textLength])), (ta_kinds, .inl (cI, 97, .inl tf_kinds))]) [0, 1, 2] rfl
  refine rwV (As := [.int 3]) (rest := []) (wc := [(h, .inr (6, [.ref a_tokens, .ref a_kinds, .ref a_firsts, .ref a_seconds, .int v_size, .int v_next, .int v_first, .int r_1])), (a_tokens, .inr (9, [.ref ta_kinds, .ref ta_places, .ref ta_values, .int tv_size, .int tv_textLength])), (ta_kinds, .inl (cI, 97, .inl tf_kinds))]) (wr := [(ta_values, .inl (cI, 97, .inl tf_values))]) S (v_accept  (by omega) (by omega)) (cwV 1 hts gX6_acceptSecond_X6_accept rfl rfl rfl ⟨rfl, hd_X6_accept⟩ ⟨Nat.le_of_ble_eq_true rfl, Nat.le_of_ble_eq_true rfl⟩) hK hP hD hS hA [0, 1, 2] [3] rfl rfl (by decide +kernel) (by decide +kernel) (by decide +kernel) (va_recv hK.1 hPc (ci := 6) (q0 := 0) rfl rfl) rfl hl.1 rfl (Nat.le_of_ble_eq_true rfl) dX6_acceptSecond_17 ⟨Nat.le_of_ble_eq_true rfl, Nat.le_of_ble_eq_true rfl⟩ (fun r_2 u_2 H locs hw_2 hP hD hS => ?_)
  obtain ⟨n1_2, rfl⟩ : ∃ z, z = u_2 := ⟨_, rfl⟩
  have hw_2 : (r_2.toInt = 0 ∨ r_2.toInt = 1) := hw_2
  have hP : va_P D vwCl [(ta_values, .inl (cI, 97, .inl tf_values)), (h, .inr (6, [.ref a_tokens, .ref a_kinds, .ref a_firsts, .ref a_seconds, .int v_size, .int n1_2, .int v_first, .int r_1])), (a_tokens, .inr (9, [.ref ta_kinds, .ref ta_places, .ref ta_values, .int tv_size, .int tv_textLength])), (ta_kinds, .inl (cI, 97, .inl tf_kinds))] H := hP
  have hD := asD hP hD
  exact hret r_2 (n1_2, r_1) _ _ _ _ (show (r_2.toInt = 0 ∨ r_2.toInt = 1) from by omega) (zb (by omega)) (hP.sub [1, 2, 3, 0] rfl) (hD.sub [1, 2, 3, 0] (by decide +kernel) rfl) hS dX6_acceptSecond_20

set_option maxHeartbeats 8000000 in
set_option maxRecDepth 100000 in
theorem v_fastSt {l : Launch} {D : va_G} {cI cZ cB : ClassId} {sz : Nat} {h a_tokens a_kinds a_firsts a_seconds ta_kinds ta_places ta_values : Nat} {v_size v_next v_first v_second tv_size tv_textLength : Int32} {tf_kinds tf_values : Nat → Int32}  (htv_size0 : 0 ≤ tv_size.toInt) (htv_size1 : tv_size.toInt ≤ 97) : Met l yX6_fastStatement wsX6_fastStatement ({ frames := 3, cells := 0, slots := 0, locals := 62 }) (RW D cI cZ cB [.ref h] sz [(h, .inr (6, [.ref a_tokens, .ref a_kinds, .ref a_firsts, .ref a_seconds, .int v_size, .int v_next, .int v_first, .int v_second])), (a_tokens, .inr (9, [.ref ta_kinds, .ref ta_places, .ref ta_values, .int tv_size, .int tv_textLength])), (ta_kinds, .inl (cI, 97, .inl tf_kinds)), (ta_values, .inl (cI, 97, .inl tf_values))]) (va_Qi (fun (r : Int32) (u : Int32 × Int32 × Int32) => True) (BW D [(h, .inr (6, [.ref a_tokens, .ref a_kinds, .ref a_firsts, .ref a_seconds, .int v_size, .int v_next, .int v_first, .int v_second])), (a_tokens, .inr (9, [.ref ta_kinds, .ref ta_places, .ref ta_values, .int tv_size, .int tv_textLength])), (ta_kinds, .inl (cI, 97, .inl tf_kinds)), (ta_values, .inl (cI, 97, .inl tf_values))] sz (fun u : Int32 × Int32 × Int32 => [(h, .inr (6, [.ref a_tokens, .ref a_kinds, .ref a_firsts, .ref a_seconds, .int v_size, .int u.1, .int u.2.1, .int u.2.2])), (a_tokens, .inr (9, [.ref ta_kinds, .ref ta_places, .ref ta_values, .int tv_size, .int tv_textLength])), (ta_kinds, .inl (cI, 97, .inl tf_kinds)), (ta_values, .inl (cI, 97, .inl tf_values))])) (va_A [(h, .inr (6, [.ref a_tokens, .ref a_kinds, .ref a_firsts, .ref a_seconds, .int v_size, .int v_next, .int v_first, .int v_second])), (a_tokens, .inr (9, [.ref ta_kinds, .ref ta_places, .ref ta_values, .int tv_size, .int tv_textLength])), (ta_kinds, .inl (cI, 97, .inl tf_kinds)), (ta_values, .inl (cI, 97, .inl tf_values))] sz)) 0 0 (va_A [(h, .inr (6, [.ref a_tokens, .ref a_kinds, .ref a_firsts, .ref a_seconds, .int v_size, .int v_next, .int v_first, .int v_second])), (a_tokens, .inr (9, [.ref ta_kinds, .ref ta_places, .ref ta_values, .int tv_size, .int tv_textLength])), (ta_kinds, .inl (cI, 97, .inl tf_kinds)), (ta_values, .inl (cI, 97, .inl tf_values))] sz) := by
  refine rw_ret (cc := cX6_fastStatement) (maxL := 2) (ty := .int) (own := RX6) (by decide) rfl rfl (Nat.le_of_ble_eq_true rfl) ?_
  intro p e s m args below meth c Q A S hin hret hP hK hD hA hS ls hl
  obtain ⟨hx, hb, hml, hown, hts⟩ := id S
  have hl : lv_has ls 2 [(0, .ref h)] := hl
  have kkm1 : (-1 : Int32).toInt = -1 := by decide
  have kk0 : (0 : Int32).toInt = 0 := by decide
  have kk1 : (1 : Int32).toInt = 1 := by decide
  have kk2 : (2 : Int32).toInt = 2 := by decide
  have kk5 : (5 : Int32).toInt = 5 := by decide
  have kk6 : (6 : Int32).toInt = 6 := by decide
  have kk7 : (7 : Int32).toInt = 7 := by decide
  refine lv_aload_n hx hb dX6_fastStatement_0 rfl (lv_at hl 0 rfl) ?_
  refine lv_iconst (v := 5) hx hb dX6_fastStatement_1 (by decide) ?_
  have hPc := hP.sub (ws' := [(h, .inr (6, [.ref a_tokens, .ref a_kinds, .ref a_firsts, .ref a_seconds, .int v_size, .int v_next, .int v_first, .int v_second])), (a_tokens, .inr (9, [.ref ta_kinds, .ref ta_places, .ref ta_values, .int tv_size, .int tv_textLength])), (ta_kinds, .inl (cI, 97, .inl tf_kinds))]) [0, 1, 2] rfl
  refine rwV (As := [.int 5]) (rest := []) (wc := [(h, .inr (6, [.ref a_tokens, .ref a_kinds, .ref a_firsts, .ref a_seconds, .int v_size, .int v_next, .int v_first, .int v_second])), (a_tokens, .inr (9, [.ref ta_kinds, .ref ta_places, .ref ta_values, .int tv_size, .int tv_textLength])), (ta_kinds, .inl (cI, 97, .inl tf_kinds))]) (wr := [(ta_values, .inl (cI, 97, .inl tf_values))]) S (v_accept  (by omega) (by omega)) (cwV 1 hts gX6_fastStatement_X6_accept rfl rfl rfl ⟨rfl, hd_X6_accept⟩ ⟨Nat.le_of_ble_eq_true rfl, Nat.le_of_ble_eq_true rfl⟩) hK hP hD hS hA [0, 1, 2] [3] rfl rfl (by decide +kernel) (by decide +kernel) (by decide +kernel) (va_recv hK.1 hPc (ci := 6) (q0 := 0) rfl rfl) rfl hl.1 rfl (Nat.le_of_ble_eq_true rfl) dX6_fastStatement_2 ⟨Nat.le_of_ble_eq_true rfl, Nat.le_of_ble_eq_true rfl⟩ (fun r_1 u_1 H locs hw_1 hP hD hS => ?_)
  obtain ⟨n1_1, rfl⟩ : ∃ z, z = u_1 := ⟨_, rfl⟩
  have hw_1 : (r_1.toInt = 0 ∨ r_1.toInt = 1) := hw_1
  have hP : va_P D vwCl [(ta_values, .inl (cI, 97, .inl tf_values)), (h, .inr (6, [.ref a_tokens, .ref a_kinds, .ref a_firsts, .ref a_seconds, .int v_size, .int n1_1, .int v_first, .int v_second])), (a_tokens, .inr (9, [.ref ta_kinds, .ref ta_places, .ref ta_values, .int tv_size, .int tv_textLength])), (ta_kinds, .inl (cI, 97, .inl tf_kinds))] H := hP
  have hD := asD hP hD
  refine lv_if_eq (tgt := 21) hx hb dX6_fastStatement_5 (by decide) (fun c_2 => ?_) (fun c_2 => ?_)
  · have tc_2 := t_eq c_2
    refine lv_aload_n hx hb dX6_fastStatement_21 rfl (lv_at hl 0 rfl) ?_
    refine lv_bipush (v := 6) hx hb dX6_fastStatement_22 (by decide) ?_
    have hPc := hP.sub (ws' := [(h, .inr (6, [.ref a_tokens, .ref a_kinds, .ref a_firsts, .ref a_seconds, .int v_size, .int n1_1, .int v_first, .int v_second])), (a_tokens, .inr (9, [.ref ta_kinds, .ref ta_places, .ref ta_values, .int tv_size, .int tv_textLength])), (ta_kinds, .inl (cI, 97, .inl tf_kinds))]) [1, 2, 3] rfl
    refine rwV (As := [.int 6]) (rest := []) (wc := [(h, .inr (6, [.ref a_tokens, .ref a_kinds, .ref a_firsts, .ref a_seconds, .int v_size, .int n1_1, .int v_first, .int v_second])), (a_tokens, .inr (9, [.ref ta_kinds, .ref ta_places, .ref ta_values, .int tv_size, .int tv_textLength])), (ta_kinds, .inl (cI, 97, .inl tf_kinds))]) (wr := [(ta_values, .inl (cI, 97, .inl tf_values))]) S (v_accept  (by omega) (by omega)) (cwV 1 hts gX6_fastStatement_X6_accept rfl rfl rfl ⟨rfl, hd_X6_accept⟩ ⟨Nat.le_of_ble_eq_true rfl, Nat.le_of_ble_eq_true rfl⟩) hK hP hD hS hA [1, 2, 3] [0] rfl rfl (by decide +kernel) (by decide +kernel) (by decide +kernel) (va_recv hK.1 hPc (ci := 6) (q0 := 0) rfl rfl) rfl hl.1 rfl (Nat.le_of_ble_eq_true rfl) dX6_fastStatement_24 ⟨Nat.le_of_ble_eq_true rfl, Nat.le_of_ble_eq_true rfl⟩ (fun r_3 u_3 H locs hw_3 hP hD hS => ?_)
    obtain ⟨n1_3, rfl⟩ : ∃ z, z = u_3 := ⟨_, rfl⟩
    have hw_3 : (r_3.toInt = 0 ∨ r_3.toInt = 1) := hw_3
    have hP : va_P D vwCl [(ta_values, .inl (cI, 97, .inl tf_values)), (h, .inr (6, [.ref a_tokens, .ref a_kinds, .ref a_firsts, .ref a_seconds, .int v_size, .int n1_3, .int v_first, .int v_second])), (a_tokens, .inr (9, [.ref ta_kinds, .ref ta_places, .ref ta_values, .int tv_size, .int tv_textLength])), (ta_kinds, .inl (cI, 97, .inl tf_kinds))] H := hP
    have hD := asD hP hD
    refine lv_if_eq (tgt := 57) hx hb dX6_fastStatement_27 (by decide) (fun c_4 => ?_) (fun c_4 => ?_)
    · have tc_4 := t_eq c_4
      refine lv_iconst (v := 0) hx hb dX6_fastStatement_57 (by decide) ?_
      refine lv_istore_n (lv' := [(1, .int 0), (0, .ref h)]) hx hb dX6_fastStatement_58 rfl hl (by decide) rfl (fun ls hl => ?_)
      refine lv_iload_n hx hb dX6_fastStatement_59 rfl (lv_at hl 0 rfl) ?_
      refine lv_if_eq (tgt := 67) hx hb dX6_fastStatement_60 (by decide) (fun c_5 => ?_) (fun c_5 => ?_)
      · have tc_5 := t_eq c_5
        refine lv_iconst (v := (-1)) hx hb dX6_fastStatement_67 (by decide) ?_
        exact hret (-1) (n1_3, v_first, v_second) _ _ _ _ (show True from trivial) rfl (hP.sub [1, 2, 3, 0] rfl) (hD.sub [1, 2, 3, 0] (by decide +kernel) rfl) hS dX6_fastStatement_68
      · exact absurd c_5 (by decide)
    · have tc_4 := t_neq c_4
      refine lv_aload_n hx hb dX6_fastStatement_30 rfl (lv_at hl 0 rfl) ?_
      have hPc := hP.sub (ws' := [(h, .inr (6, [.ref a_tokens, .ref a_kinds, .ref a_firsts, .ref a_seconds, .int v_size, .int n1_3, .int v_first, .int v_second])), (a_tokens, .inr (9, [.ref ta_kinds, .ref ta_places, .ref ta_values, .int tv_size, .int tv_textLength])), (ta_kinds, .inl (cI, 97, .inl tf_kinds)), (ta_values, .inl (cI, 97, .inl tf_values))]) [1, 2, 3, 0] rfl
      refine rwV (As := []) (rest := []) (wc := [(h, .inr (6, [.ref a_tokens, .ref a_kinds, .ref a_firsts, .ref a_seconds, .int v_size, .int n1_3, .int v_first, .int v_second])), (a_tokens, .inr (9, [.ref ta_kinds, .ref ta_places, .ref ta_values, .int tv_size, .int tv_textLength])), (ta_kinds, .inl (cI, 97, .inl tf_kinds)), (ta_values, .inl (cI, 97, .inl tf_values))]) (wr := []) S (v_acceptFirst  (by omega) (by omega)) (cwV 0 hts gX6_fastStatement_X6_acceptFirst rfl rfl rfl ⟨rfl, hd_X6_acceptFirst⟩ ⟨Nat.le_of_ble_eq_true rfl, Nat.le_of_ble_eq_true rfl⟩) hK hP hD hS hA [1, 2, 3, 0] [] rfl rfl (by decide +kernel) (by decide +kernel) (by decide +kernel) (va_recv hK.1 hPc (ci := 6) (q0 := 0) rfl rfl) rfl hl.1 rfl (Nat.le_of_ble_eq_true rfl) dX6_fastStatement_31 ⟨Nat.le_of_ble_eq_true rfl, Nat.le_of_ble_eq_true rfl⟩ (fun r_6 u_6 H locs hw_6 hP hD hS => ?_)
      obtain ⟨n1_6, n2_6⟩ := u_6
      have hw_6 : (r_6.toInt = 0 ∨ r_6.toInt = 1) := hw_6
      have hP : va_P D vwCl [(h, .inr (6, [.ref a_tokens, .ref a_kinds, .ref a_firsts, .ref a_seconds, .int v_size, .int n1_6, .int n2_6, .int v_second])), (a_tokens, .inr (9, [.ref ta_kinds, .ref ta_places, .ref ta_values, .int tv_size, .int tv_textLength])), (ta_kinds, .inl (cI, 97, .inl tf_kinds)), (ta_values, .inl (cI, 97, .inl tf_values))] H := hP
      have hD := asD hP hD
      refine lv_if_eq (tgt := 57) hx hb dX6_fastStatement_34 (by decide) (fun c_7 => ?_) (fun c_7 => ?_)
      · have tc_7 := t_eq c_7
        refine lv_iconst (v := 0) hx hb dX6_fastStatement_57 (by decide) ?_
        refine lv_istore_n (lv' := [(1, .int 0), (0, .ref h)]) hx hb dX6_fastStatement_58 rfl hl (by decide) rfl (fun ls hl => ?_)
        refine lv_iload_n hx hb dX6_fastStatement_59 rfl (lv_at hl 0 rfl) ?_
        refine lv_if_eq (tgt := 67) hx hb dX6_fastStatement_60 (by decide) (fun c_8 => ?_) (fun c_8 => ?_)
        · have tc_8 := t_eq c_8
          refine lv_iconst (v := (-1)) hx hb dX6_fastStatement_67 (by decide) ?_
          exact hret (-1) (n1_6, n2_6, v_second) _ _ _ _ (show True from trivial) rfl (hP.sub [0, 1, 2, 3] rfl) (hD.sub [0, 1, 2, 3] (by decide +kernel) rfl) hS dX6_fastStatement_68
        · exact absurd c_8 (by decide)
      · have tc_7 := t_neq c_7
        refine lv_aload_n hx hb dX6_fastStatement_37 rfl (lv_at hl 0 rfl) ?_
        refine lv_bipush (v := 7) hx hb dX6_fastStatement_38 (by decide) ?_
        have hPc := hP.sub (ws' := [(h, .inr (6, [.ref a_tokens, .ref a_kinds, .ref a_firsts, .ref a_seconds, .int v_size, .int n1_6, .int n2_6, .int v_second])), (a_tokens, .inr (9, [.ref ta_kinds, .ref ta_places, .ref ta_values, .int tv_size, .int tv_textLength])), (ta_kinds, .inl (cI, 97, .inl tf_kinds))]) [0, 1, 2] rfl
        refine rwV (As := [.int 7]) (rest := []) (wc := [(h, .inr (6, [.ref a_tokens, .ref a_kinds, .ref a_firsts, .ref a_seconds, .int v_size, .int n1_6, .int n2_6, .int v_second])), (a_tokens, .inr (9, [.ref ta_kinds, .ref ta_places, .ref ta_values, .int tv_size, .int tv_textLength])), (ta_kinds, .inl (cI, 97, .inl tf_kinds))]) (wr := [(ta_values, .inl (cI, 97, .inl tf_values))]) S (v_accept  (by omega) (by omega)) (cwV 1 hts gX6_fastStatement_X6_accept rfl rfl rfl ⟨rfl, hd_X6_accept⟩ ⟨Nat.le_of_ble_eq_true rfl, Nat.le_of_ble_eq_true rfl⟩) hK hP hD hS hA [0, 1, 2] [3] rfl rfl (by decide +kernel) (by decide +kernel) (by decide +kernel) (va_recv hK.1 hPc (ci := 6) (q0 := 0) rfl rfl) rfl hl.1 rfl (Nat.le_of_ble_eq_true rfl) dX6_fastStatement_40 ⟨Nat.le_of_ble_eq_true rfl, Nat.le_of_ble_eq_true rfl⟩ (fun r_9 u_9 H locs hw_9 hP hD hS => ?_)
        obtain ⟨n1_9, rfl⟩ : ∃ z, z = u_9 := ⟨_, rfl⟩
        have hw_9 : (r_9.toInt = 0 ∨ r_9.toInt = 1) := hw_9
        have hP : va_P D vwCl [(ta_values, .inl (cI, 97, .inl tf_values)), (h, .inr (6, [.ref a_tokens, .ref a_kinds, .ref a_firsts, .ref a_seconds, .int v_size, .int n1_9, .int n2_6, .int v_second])), (a_tokens, .inr (9, [.ref ta_kinds, .ref ta_places, .ref ta_values, .int tv_size, .int tv_textLength])), (ta_kinds, .inl (cI, 97, .inl tf_kinds))] H := hP
        have hD := asD hP hD
        refine lv_if_eq (tgt := 57) hx hb dX6_fastStatement_43 (by decide) (fun c_10 => ?_) (fun c_10 => ?_)
        · have tc_10 := t_eq c_10
          refine lv_iconst (v := 0) hx hb dX6_fastStatement_57 (by decide) ?_
          refine lv_istore_n (lv' := [(1, .int 0), (0, .ref h)]) hx hb dX6_fastStatement_58 rfl hl (by decide) rfl (fun ls hl => ?_)
          refine lv_iload_n hx hb dX6_fastStatement_59 rfl (lv_at hl 0 rfl) ?_
          refine lv_if_eq (tgt := 67) hx hb dX6_fastStatement_60 (by decide) (fun c_11 => ?_) (fun c_11 => ?_)
          · have tc_11 := t_eq c_11
            refine lv_iconst (v := (-1)) hx hb dX6_fastStatement_67 (by decide) ?_
            exact hret (-1) (n1_9, n2_6, v_second) _ _ _ _ (show True from trivial) rfl (hP.sub [1, 2, 3, 0] rfl) (hD.sub [1, 2, 3, 0] (by decide +kernel) rfl) hS dX6_fastStatement_68
          · exact absurd c_11 (by decide)
        · have tc_10 := t_neq c_10
          refine lv_aload_n hx hb dX6_fastStatement_46 rfl (lv_at hl 0 rfl) ?_
          have hPc := hP.sub (ws' := [(h, .inr (6, [.ref a_tokens, .ref a_kinds, .ref a_firsts, .ref a_seconds, .int v_size, .int n1_9, .int n2_6, .int v_second])), (a_tokens, .inr (9, [.ref ta_kinds, .ref ta_places, .ref ta_values, .int tv_size, .int tv_textLength])), (ta_kinds, .inl (cI, 97, .inl tf_kinds)), (ta_values, .inl (cI, 97, .inl tf_values))]) [1, 2, 3, 0] rfl
          refine rwV (As := []) (rest := []) (wc := [(h, .inr (6, [.ref a_tokens, .ref a_kinds, .ref a_firsts, .ref a_seconds, .int v_size, .int n1_9, .int n2_6, .int v_second])), (a_tokens, .inr (9, [.ref ta_kinds, .ref ta_places, .ref ta_values, .int tv_size, .int tv_textLength])), (ta_kinds, .inl (cI, 97, .inl tf_kinds)), (ta_values, .inl (cI, 97, .inl tf_values))]) (wr := []) S (v_acceptSecond  (by omega) (by omega)) (cwV 0 hts gX6_fastStatement_X6_acceptSecond rfl rfl rfl ⟨rfl, hd_X6_acceptSecond⟩ ⟨Nat.le_of_ble_eq_true rfl, Nat.le_of_ble_eq_true rfl⟩) hK hP hD hS hA [1, 2, 3, 0] [] rfl rfl (by decide +kernel) (by decide +kernel) (by decide +kernel) (va_recv hK.1 hPc (ci := 6) (q0 := 0) rfl rfl) rfl hl.1 rfl (Nat.le_of_ble_eq_true rfl) dX6_fastStatement_47 ⟨Nat.le_of_ble_eq_true rfl, Nat.le_of_ble_eq_true rfl⟩ (fun r_12 u_12 H locs hw_12 hP hD hS => ?_)
          obtain ⟨n1_12, n2_12⟩ := u_12
          have hw_12 : (r_12.toInt = 0 ∨ r_12.toInt = 1) := hw_12
          have hP : va_P D vwCl [(h, .inr (6, [.ref a_tokens, .ref a_kinds, .ref a_firsts, .ref a_seconds, .int v_size, .int n1_12, .int n2_6, .int n2_12])), (a_tokens, .inr (9, [.ref ta_kinds, .ref ta_places, .ref ta_values, .int tv_size, .int tv_textLength])), (ta_kinds, .inl (cI, 97, .inl tf_kinds)), (ta_values, .inl (cI, 97, .inl tf_values))] H := hP
          have hD := asD hP hD
          refine lv_if_eq (tgt := 57) hx hb dX6_fastStatement_50 (by decide) (fun c_13 => ?_) (fun c_13 => ?_)
          · have tc_13 := t_eq c_13
            refine lv_iconst (v := 0) hx hb dX6_fastStatement_57 (by decide) ?_
            refine lv_istore_n (lv' := [(1, .int 0), (0, .ref h)]) hx hb dX6_fastStatement_58 rfl hl (by decide) rfl (fun ls hl => ?_)
            refine lv_iload_n hx hb dX6_fastStatement_59 rfl (lv_at hl 0 rfl) ?_
            refine lv_if_eq (tgt := 67) hx hb dX6_fastStatement_60 (by decide) (fun c_14 => ?_) (fun c_14 => ?_)
            · have tc_14 := t_eq c_14
              refine lv_iconst (v := (-1)) hx hb dX6_fastStatement_67 (by decide) ?_
              exact hret (-1) (n1_12, n2_6, n2_12) _ _ _ _ (show True from trivial) rfl (hP.sub [0, 1, 2, 3] rfl) (hD.sub [0, 1, 2, 3] (by decide +kernel) rfl) hS dX6_fastStatement_68
            · exact absurd c_14 (by decide)
          · have tc_13 := t_neq c_13
            refine lv_iconst (v := 1) hx hb dX6_fastStatement_53 (by decide) ?_
            refine lv_goto (tgt := 58) hx hb dX6_fastStatement_54 (by decide) ?_
            refine lv_istore_n (lv' := [(1, .int 1), (0, .ref h)]) hx hb dX6_fastStatement_58 rfl hl (by decide) rfl (fun ls hl => ?_)
            refine lv_iload_n hx hb dX6_fastStatement_59 rfl (lv_at hl 0 rfl) ?_
            refine lv_if_eq (tgt := 67) hx hb dX6_fastStatement_60 (by decide) (fun c_15 => ?_) (fun c_15 => ?_)
            · exact absurd c_15 (by decide)
            · have tc_15 := t_neq c_15
              refine lv_iconst (v := 2) hx hb dX6_fastStatement_63 (by decide) ?_
              refine lv_goto (tgt := 68) hx hb dX6_fastStatement_64 (by decide) ?_
              exact hret 2 (n1_12, n2_6, n2_12) _ _ _ _ (show True from trivial) rfl (hP.sub [0, 1, 2, 3] rfl) (hD.sub [0, 1, 2, 3] (by decide +kernel) rfl) hS dX6_fastStatement_68
  · have tc_2 := t_neq c_2
    refine lv_aload_n hx hb dX6_fastStatement_8 rfl (lv_at hl 0 rfl) ?_
    have hPc := hP.sub (ws' := [(h, .inr (6, [.ref a_tokens, .ref a_kinds, .ref a_firsts, .ref a_seconds, .int v_size, .int n1_1, .int v_first, .int v_second])), (a_tokens, .inr (9, [.ref ta_kinds, .ref ta_places, .ref ta_values, .int tv_size, .int tv_textLength])), (ta_kinds, .inl (cI, 97, .inl tf_kinds)), (ta_values, .inl (cI, 97, .inl tf_values))]) [1, 2, 3, 0] rfl
    refine rwV (As := []) (rest := []) (wc := [(h, .inr (6, [.ref a_tokens, .ref a_kinds, .ref a_firsts, .ref a_seconds, .int v_size, .int n1_1, .int v_first, .int v_second])), (a_tokens, .inr (9, [.ref ta_kinds, .ref ta_places, .ref ta_values, .int tv_size, .int tv_textLength])), (ta_kinds, .inl (cI, 97, .inl tf_kinds)), (ta_values, .inl (cI, 97, .inl tf_values))]) (wr := []) S (v_acceptFirst  (by omega) (by omega)) (cwV 0 hts gX6_fastStatement_X6_acceptFirst rfl rfl rfl ⟨rfl, hd_X6_acceptFirst⟩ ⟨Nat.le_of_ble_eq_true rfl, Nat.le_of_ble_eq_true rfl⟩) hK hP hD hS hA [1, 2, 3, 0] [] rfl rfl (by decide +kernel) (by decide +kernel) (by decide +kernel) (va_recv hK.1 hPc (ci := 6) (q0 := 0) rfl rfl) rfl hl.1 rfl (Nat.le_of_ble_eq_true rfl) dX6_fastStatement_9 ⟨Nat.le_of_ble_eq_true rfl, Nat.le_of_ble_eq_true rfl⟩ (fun r_16 u_16 H locs hw_16 hP hD hS => ?_)
    obtain ⟨n1_16, n2_16⟩ := u_16
    have hw_16 : (r_16.toInt = 0 ∨ r_16.toInt = 1) := hw_16
    have hP : va_P D vwCl [(h, .inr (6, [.ref a_tokens, .ref a_kinds, .ref a_firsts, .ref a_seconds, .int v_size, .int n1_16, .int n2_16, .int v_second])), (a_tokens, .inr (9, [.ref ta_kinds, .ref ta_places, .ref ta_values, .int tv_size, .int tv_textLength])), (ta_kinds, .inl (cI, 97, .inl tf_kinds)), (ta_values, .inl (cI, 97, .inl tf_values))] H := hP
    have hD := asD hP hD
    refine lv_if_eq (tgt := 19) hx hb dX6_fastStatement_12 (by decide) (fun c_17 => ?_) (fun c_17 => ?_)
    · have tc_17 := t_eq c_17
      refine lv_iconst (v := (-1)) hx hb dX6_fastStatement_19 (by decide) ?_
      exact hret (-1) (n1_16, n2_16, v_second) _ _ _ _ (show True from trivial) rfl (hP.sub [0, 1, 2, 3] rfl) (hD.sub [0, 1, 2, 3] (by decide +kernel) rfl) hS dX6_fastStatement_20
    · have tc_17 := t_neq c_17
      refine lv_iconst (v := 1) hx hb dX6_fastStatement_15 (by decide) ?_
      refine lv_goto (tgt := 20) hx hb dX6_fastStatement_16 (by decide) ?_
      exact hret 1 (n1_16, n2_16, v_second) _ _ _ _ (show True from trivial) rfl (hP.sub [0, 1, 2, 3] rfl) (hD.sub [0, 1, 2, 3] (by decide +kernel) rfl) hS dX6_fastStatement_20

set_option maxHeartbeats 8000000 in
set_option maxRecDepth 100000 in
theorem v_feedSt {l : Launch} {D : va_G} {cI cZ cB : ClassId} {sz : Nat} {h a_tokens a_kinds a_firsts a_seconds ta_kinds ta_places ta_values : Nat} {v_size v_next v_first v_second tv_size tv_textLength : Int32} {tf_kinds tf_values : Nat → Int32}  (htv_size0 : 0 ≤ tv_size.toInt) (htv_size1 : tv_size.toInt ≤ 97) : Met l yX6_feedStatement wsX6_feedStatement ({ frames := 3, cells := 0, slots := 0, locals := 62 }) (RW D cI cZ cB [.ref h] sz [(h, .inr (6, [.ref a_tokens, .ref a_kinds, .ref a_firsts, .ref a_seconds, .int v_size, .int v_next, .int v_first, .int v_second])), (a_tokens, .inr (9, [.ref ta_kinds, .ref ta_places, .ref ta_values, .int tv_size, .int tv_textLength])), (ta_kinds, .inl (cI, 97, .inl tf_kinds)), (ta_values, .inl (cI, 97, .inl tf_values))]) (va_Qi (fun (r : Int32) (u : Int32 × Int32 × Int32) => True) (BW D [(h, .inr (6, [.ref a_tokens, .ref a_kinds, .ref a_firsts, .ref a_seconds, .int v_size, .int v_next, .int v_first, .int v_second])), (a_tokens, .inr (9, [.ref ta_kinds, .ref ta_places, .ref ta_values, .int tv_size, .int tv_textLength])), (ta_kinds, .inl (cI, 97, .inl tf_kinds)), (ta_values, .inl (cI, 97, .inl tf_values))] sz (fun u : Int32 × Int32 × Int32 => [(h, .inr (6, [.ref a_tokens, .ref a_kinds, .ref a_firsts, .ref a_seconds, .int v_size, .int u.1, .int u.2.1, .int u.2.2])), (a_tokens, .inr (9, [.ref ta_kinds, .ref ta_places, .ref ta_values, .int tv_size, .int tv_textLength])), (ta_kinds, .inl (cI, 97, .inl tf_kinds)), (ta_values, .inl (cI, 97, .inl tf_values))])) (va_A [(h, .inr (6, [.ref a_tokens, .ref a_kinds, .ref a_firsts, .ref a_seconds, .int v_size, .int v_next, .int v_first, .int v_second])), (a_tokens, .inr (9, [.ref ta_kinds, .ref ta_places, .ref ta_values, .int tv_size, .int tv_textLength])), (ta_kinds, .inl (cI, 97, .inl tf_kinds)), (ta_values, .inl (cI, 97, .inl tf_values))] sz)) 0 0 (va_A [(h, .inr (6, [.ref a_tokens, .ref a_kinds, .ref a_firsts, .ref a_seconds, .int v_size, .int v_next, .int v_first, .int v_second])), (a_tokens, .inr (9, [.ref ta_kinds, .ref ta_places, .ref ta_values, .int tv_size, .int tv_textLength])), (ta_kinds, .inl (cI, 97, .inl tf_kinds)), (ta_values, .inl (cI, 97, .inl tf_values))] sz) := by
  refine rw_ret (cc := cX6_feedStatement) (maxL := 1) (ty := .int) (own := RX6) (by decide) rfl rfl (Nat.le_of_ble_eq_true rfl) ?_
  intro p e s m args below meth c Q A S hin hret hP hK hD hA hS ls hl
  obtain ⟨hx, hb, hml, hown, hts⟩ := id S
  have hl : lv_has ls 1 [(0, .ref h)] := hl
  have kkm1 : (-1 : Int32).toInt = -1 := by decide
  have kk0 : (0 : Int32).toInt = 0 := by decide
  have kk3 : (3 : Int32).toInt = 3 := by decide
  have kk4 : (4 : Int32).toInt = 4 := by decide
  have kk5 : (5 : Int32).toInt = 5 := by decide
  have kk6 : (6 : Int32).toInt = 6 := by decide
  have kk9 : (9 : Int32).toInt = 9 := by decide
  have kk10 : (10 : Int32).toInt = 10 := by decide
  refine lv_aload_n hx hb dX6_feedStatement_0 rfl (lv_at hl 0 rfl) ?_
  refine lv_iconst (v := 4) hx hb dX6_feedStatement_1 (by decide) ?_
  have hPc := hP.sub (ws' := [(h, .inr (6, [.ref a_tokens, .ref a_kinds, .ref a_firsts, .ref a_seconds, .int v_size, .int v_next, .int v_first, .int v_second])), (a_tokens, .inr (9, [.ref ta_kinds, .ref ta_places, .ref ta_values, .int tv_size, .int tv_textLength])), (ta_kinds, .inl (cI, 97, .inl tf_kinds))]) [0, 1, 2] rfl
  refine rwV (As := [.int 4]) (rest := []) (wc := [(h, .inr (6, [.ref a_tokens, .ref a_kinds, .ref a_firsts, .ref a_seconds, .int v_size, .int v_next, .int v_first, .int v_second])), (a_tokens, .inr (9, [.ref ta_kinds, .ref ta_places, .ref ta_values, .int tv_size, .int tv_textLength])), (ta_kinds, .inl (cI, 97, .inl tf_kinds))]) (wr := [(ta_values, .inl (cI, 97, .inl tf_values))]) S (v_accept  (by omega) (by omega)) (cwV 1 hts gX6_feedStatement_X6_accept rfl rfl rfl ⟨rfl, hd_X6_accept⟩ ⟨Nat.le_of_ble_eq_true rfl, Nat.le_of_ble_eq_true rfl⟩) hK hP hD hS hA [0, 1, 2] [3] rfl rfl (by decide +kernel) (by decide +kernel) (by decide +kernel) (va_recv hK.1 hPc (ci := 6) (q0 := 0) rfl rfl) rfl hl.1 rfl (Nat.le_of_ble_eq_true rfl) dX6_feedStatement_2 ⟨Nat.le_of_ble_eq_true rfl, Nat.le_of_ble_eq_true rfl⟩ (fun r_1 u_1 H locs hw_1 hP hD hS => ?_)
  obtain ⟨n1_1, rfl⟩ : ∃ z, z = u_1 := ⟨_, rfl⟩
  have hw_1 : (r_1.toInt = 0 ∨ r_1.toInt = 1) := hw_1
  have hP : va_P D vwCl [(ta_values, .inl (cI, 97, .inl tf_values)), (h, .inr (6, [.ref a_tokens, .ref a_kinds, .ref a_firsts, .ref a_seconds, .int v_size, .int n1_1, .int v_first, .int v_second])), (a_tokens, .inr (9, [.ref ta_kinds, .ref ta_places, .ref ta_values, .int tv_size, .int tv_textLength])), (ta_kinds, .inl (cI, 97, .inl tf_kinds))] H := hP
  have hD := asD hP hD
  refine lv_if_eq (tgt := 21) hx hb dX6_feedStatement_5 (by decide) (fun c_2 => ?_) (fun c_2 => ?_)
  · have tc_2 := t_eq c_2
    refine lv_aload_n hx hb dX6_feedStatement_21 rfl (lv_at hl 0 rfl) ?_
    refine lv_bipush (v := 9) hx hb dX6_feedStatement_22 (by decide) ?_
    have hPc := hP.sub (ws' := [(h, .inr (6, [.ref a_tokens, .ref a_kinds, .ref a_firsts, .ref a_seconds, .int v_size, .int n1_1, .int v_first, .int v_second])), (a_tokens, .inr (9, [.ref ta_kinds, .ref ta_places, .ref ta_values, .int tv_size, .int tv_textLength])), (ta_kinds, .inl (cI, 97, .inl tf_kinds))]) [1, 2, 3] rfl
    refine rwV (As := [.int 9]) (rest := []) (wc := [(h, .inr (6, [.ref a_tokens, .ref a_kinds, .ref a_firsts, .ref a_seconds, .int v_size, .int n1_1, .int v_first, .int v_second])), (a_tokens, .inr (9, [.ref ta_kinds, .ref ta_places, .ref ta_values, .int tv_size, .int tv_textLength])), (ta_kinds, .inl (cI, 97, .inl tf_kinds))]) (wr := [(ta_values, .inl (cI, 97, .inl tf_values))]) S (v_accept  (by omega) (by omega)) (cwV 1 hts gX6_feedStatement_X6_accept rfl rfl rfl ⟨rfl, hd_X6_accept⟩ ⟨Nat.le_of_ble_eq_true rfl, Nat.le_of_ble_eq_true rfl⟩) hK hP hD hS hA [1, 2, 3] [0] rfl rfl (by decide +kernel) (by decide +kernel) (by decide +kernel) (va_recv hK.1 hPc (ci := 6) (q0 := 0) rfl rfl) rfl hl.1 rfl (Nat.le_of_ble_eq_true rfl) dX6_feedStatement_24 ⟨Nat.le_of_ble_eq_true rfl, Nat.le_of_ble_eq_true rfl⟩ (fun r_3 u_3 H locs hw_3 hP hD hS => ?_)
    obtain ⟨n1_3, rfl⟩ : ∃ z, z = u_3 := ⟨_, rfl⟩
    have hw_3 : (r_3.toInt = 0 ∨ r_3.toInt = 1) := hw_3
    have hP : va_P D vwCl [(ta_values, .inl (cI, 97, .inl tf_values)), (h, .inr (6, [.ref a_tokens, .ref a_kinds, .ref a_firsts, .ref a_seconds, .int v_size, .int n1_3, .int v_first, .int v_second])), (a_tokens, .inr (9, [.ref ta_kinds, .ref ta_places, .ref ta_values, .int tv_size, .int tv_textLength])), (ta_kinds, .inl (cI, 97, .inl tf_kinds))] H := hP
    have hD := asD hP hD
    refine lv_if_eq (tgt := 50) hx hb dX6_feedStatement_27 (by decide) (fun c_4 => ?_) (fun c_4 => ?_)
    · have tc_4 := t_eq c_4
      refine lv_aload_n hx hb dX6_feedStatement_50 rfl (lv_at hl 0 rfl) ?_
      refine lv_bipush (v := 10) hx hb dX6_feedStatement_51 (by decide) ?_
      have hPc := hP.sub (ws' := [(h, .inr (6, [.ref a_tokens, .ref a_kinds, .ref a_firsts, .ref a_seconds, .int v_size, .int n1_3, .int v_first, .int v_second])), (a_tokens, .inr (9, [.ref ta_kinds, .ref ta_places, .ref ta_values, .int tv_size, .int tv_textLength])), (ta_kinds, .inl (cI, 97, .inl tf_kinds))]) [1, 2, 3] rfl
      refine rwV (As := [.int 10]) (rest := []) (wc := [(h, .inr (6, [.ref a_tokens, .ref a_kinds, .ref a_firsts, .ref a_seconds, .int v_size, .int n1_3, .int v_first, .int v_second])), (a_tokens, .inr (9, [.ref ta_kinds, .ref ta_places, .ref ta_values, .int tv_size, .int tv_textLength])), (ta_kinds, .inl (cI, 97, .inl tf_kinds))]) (wr := [(ta_values, .inl (cI, 97, .inl tf_values))]) S (v_accept  (by omega) (by omega)) (cwV 1 hts gX6_feedStatement_X6_accept rfl rfl rfl ⟨rfl, hd_X6_accept⟩ ⟨Nat.le_of_ble_eq_true rfl, Nat.le_of_ble_eq_true rfl⟩) hK hP hD hS hA [1, 2, 3] [0] rfl rfl (by decide +kernel) (by decide +kernel) (by decide +kernel) (va_recv hK.1 hPc (ci := 6) (q0 := 0) rfl rfl) rfl hl.1 rfl (Nat.le_of_ble_eq_true rfl) dX6_feedStatement_53 ⟨Nat.le_of_ble_eq_true rfl, Nat.le_of_ble_eq_true rfl⟩ (fun r_5 u_5 H locs hw_5 hP hD hS => ?_)
      obtain ⟨n1_5, rfl⟩ : ∃ z, z = u_5 := ⟨_, rfl⟩
      have hw_5 : (r_5.toInt = 0 ∨ r_5.toInt = 1) := hw_5
      have hP : va_P D vwCl [(ta_values, .inl (cI, 97, .inl tf_values)), (h, .inr (6, [.ref a_tokens, .ref a_kinds, .ref a_firsts, .ref a_seconds, .int v_size, .int n1_5, .int v_first, .int v_second])), (a_tokens, .inr (9, [.ref ta_kinds, .ref ta_places, .ref ta_values, .int tv_size, .int tv_textLength])), (ta_kinds, .inl (cI, 97, .inl tf_kinds))] H := hP
      have hD := asD hP hD
      refine lv_if_eq (tgt := 72) hx hb dX6_feedStatement_56 (by decide) (fun c_6 => ?_) (fun c_6 => ?_)
      · have tc_6 := t_eq c_6
        refine lv_aload_n hx hb dX6_feedStatement_72 rfl (lv_at hl 0 rfl) ?_
        have hPc := hP.sub (ws' := [(h, .inr (6, [.ref a_tokens, .ref a_kinds, .ref a_firsts, .ref a_seconds, .int v_size, .int n1_5, .int v_first, .int v_second])), (a_tokens, .inr (9, [.ref ta_kinds, .ref ta_places, .ref ta_values, .int tv_size, .int tv_textLength])), (ta_kinds, .inl (cI, 97, .inl tf_kinds)), (ta_values, .inl (cI, 97, .inl tf_values))]) [1, 2, 3, 0] rfl
        refine rwV (As := []) (rest := []) (wc := [(h, .inr (6, [.ref a_tokens, .ref a_kinds, .ref a_firsts, .ref a_seconds, .int v_size, .int n1_5, .int v_first, .int v_second])), (a_tokens, .inr (9, [.ref ta_kinds, .ref ta_places, .ref ta_values, .int tv_size, .int tv_textLength])), (ta_kinds, .inl (cI, 97, .inl tf_kinds)), (ta_values, .inl (cI, 97, .inl tf_values))]) (wr := []) S (v_acceptSecond  (by omega) (by omega)) (cwV 0 hts gX6_feedStatement_X6_acceptSecond rfl rfl rfl ⟨rfl, hd_X6_acceptSecond⟩ ⟨Nat.le_of_ble_eq_true rfl, Nat.le_of_ble_eq_true rfl⟩) hK hP hD hS hA [1, 2, 3, 0] [] rfl rfl (by decide +kernel) (by decide +kernel) (by decide +kernel) (va_recv hK.1 hPc (ci := 6) (q0 := 0) rfl rfl) rfl hl.1 rfl (Nat.le_of_ble_eq_true rfl) dX6_feedStatement_73 ⟨Nat.le_of_ble_eq_true rfl, Nat.le_of_ble_eq_true rfl⟩ (fun r_7 u_7 H locs hw_7 hP hD hS => ?_)
        obtain ⟨n1_7, n2_7⟩ := u_7
        have hw_7 : (r_7.toInt = 0 ∨ r_7.toInt = 1) := hw_7
        have hP : va_P D vwCl [(h, .inr (6, [.ref a_tokens, .ref a_kinds, .ref a_firsts, .ref a_seconds, .int v_size, .int n1_7, .int v_first, .int n2_7])), (a_tokens, .inr (9, [.ref ta_kinds, .ref ta_places, .ref ta_values, .int tv_size, .int tv_textLength])), (ta_kinds, .inl (cI, 97, .inl tf_kinds)), (ta_values, .inl (cI, 97, .inl tf_values))] H := hP
        have hD := asD hP hD
        refine lv_if_eq (tgt := 84) hx hb dX6_feedStatement_76 (by decide) (fun c_8 => ?_) (fun c_8 => ?_)
        · have tc_8 := t_eq c_8
          refine lv_iconst (v := (-1)) hx hb dX6_feedStatement_84 (by decide) ?_
          exact hret (-1) (n1_7, v_first, n2_7) _ _ _ _ (show True from trivial) rfl (hP.sub [0, 1, 2, 3] rfl) (hD.sub [0, 1, 2, 3] (by decide +kernel) rfl) hS dX6_feedStatement_85
        · have tc_8 := t_neq c_8
          refine lv_bipush (v := 6) hx hb dX6_feedStatement_79 (by decide) ?_
          refine lv_goto (tgt := 85) hx hb dX6_feedStatement_81 (by decide) ?_
          exact hret 6 (n1_7, v_first, n2_7) _ _ _ _ (show True from trivial) rfl (hP.sub [0, 1, 2, 3] rfl) (hD.sub [0, 1, 2, 3] (by decide +kernel) rfl) hS dX6_feedStatement_85
      · have tc_6 := t_neq c_6
        refine lv_aload_n hx hb dX6_feedStatement_59 rfl (lv_at hl 0 rfl) ?_
        have hPc := hP.sub (ws' := [(h, .inr (6, [.ref a_tokens, .ref a_kinds, .ref a_firsts, .ref a_seconds, .int v_size, .int n1_5, .int v_first, .int v_second])), (a_tokens, .inr (9, [.ref ta_kinds, .ref ta_places, .ref ta_values, .int tv_size, .int tv_textLength])), (ta_kinds, .inl (cI, 97, .inl tf_kinds)), (ta_values, .inl (cI, 97, .inl tf_values))]) [1, 2, 3, 0] rfl
        refine rwV (As := []) (rest := []) (wc := [(h, .inr (6, [.ref a_tokens, .ref a_kinds, .ref a_firsts, .ref a_seconds, .int v_size, .int n1_5, .int v_first, .int v_second])), (a_tokens, .inr (9, [.ref ta_kinds, .ref ta_places, .ref ta_values, .int tv_size, .int tv_textLength])), (ta_kinds, .inl (cI, 97, .inl tf_kinds)), (ta_values, .inl (cI, 97, .inl tf_values))]) (wr := []) S (v_acceptSecond  (by omega) (by omega)) (cwV 0 hts gX6_feedStatement_X6_acceptSecond rfl rfl rfl ⟨rfl, hd_X6_acceptSecond⟩ ⟨Nat.le_of_ble_eq_true rfl, Nat.le_of_ble_eq_true rfl⟩) hK hP hD hS hA [1, 2, 3, 0] [] rfl rfl (by decide +kernel) (by decide +kernel) (by decide +kernel) (va_recv hK.1 hPc (ci := 6) (q0 := 0) rfl rfl) rfl hl.1 rfl (Nat.le_of_ble_eq_true rfl) dX6_feedStatement_60 ⟨Nat.le_of_ble_eq_true rfl, Nat.le_of_ble_eq_true rfl⟩ (fun r_9 u_9 H locs hw_9 hP hD hS => ?_)
        obtain ⟨n1_9, n2_9⟩ := u_9
        have hw_9 : (r_9.toInt = 0 ∨ r_9.toInt = 1) := hw_9
        have hP : va_P D vwCl [(h, .inr (6, [.ref a_tokens, .ref a_kinds, .ref a_firsts, .ref a_seconds, .int v_size, .int n1_9, .int v_first, .int n2_9])), (a_tokens, .inr (9, [.ref ta_kinds, .ref ta_places, .ref ta_values, .int tv_size, .int tv_textLength])), (ta_kinds, .inl (cI, 97, .inl tf_kinds)), (ta_values, .inl (cI, 97, .inl tf_values))] H := hP
        have hD := asD hP hD
        refine lv_if_eq (tgt := 70) hx hb dX6_feedStatement_63 (by decide) (fun c_10 => ?_) (fun c_10 => ?_)
        · have tc_10 := t_eq c_10
          refine lv_iconst (v := (-1)) hx hb dX6_feedStatement_70 (by decide) ?_
          exact hret (-1) (n1_9, v_first, n2_9) _ _ _ _ (show True from trivial) rfl (hP.sub [0, 1, 2, 3] rfl) (hD.sub [0, 1, 2, 3] (by decide +kernel) rfl) hS dX6_feedStatement_71
        · have tc_10 := t_neq c_10
          refine lv_iconst (v := 5) hx hb dX6_feedStatement_66 (by decide) ?_
          refine lv_goto (tgt := 71) hx hb dX6_feedStatement_67 (by decide) ?_
          exact hret 5 (n1_9, v_first, n2_9) _ _ _ _ (show True from trivial) rfl (hP.sub [0, 1, 2, 3] rfl) (hD.sub [0, 1, 2, 3] (by decide +kernel) rfl) hS dX6_feedStatement_71
    · have tc_4 := t_neq c_4
      refine lv_aload_n hx hb dX6_feedStatement_30 rfl (lv_at hl 0 rfl) ?_
      have hPc := hP.sub (ws' := [(h, .inr (6, [.ref a_tokens, .ref a_kinds, .ref a_firsts, .ref a_seconds, .int v_size, .int n1_3, .int v_first, .int v_second])), (a_tokens, .inr (9, [.ref ta_kinds, .ref ta_places, .ref ta_values, .int tv_size, .int tv_textLength])), (ta_kinds, .inl (cI, 97, .inl tf_kinds)), (ta_values, .inl (cI, 97, .inl tf_values))]) [1, 2, 3, 0] rfl
      refine rwV (As := []) (rest := []) (wc := [(h, .inr (6, [.ref a_tokens, .ref a_kinds, .ref a_firsts, .ref a_seconds, .int v_size, .int n1_3, .int v_first, .int v_second])), (a_tokens, .inr (9, [.ref ta_kinds, .ref ta_places, .ref ta_values, .int tv_size, .int tv_textLength])), (ta_kinds, .inl (cI, 97, .inl tf_kinds)), (ta_values, .inl (cI, 97, .inl tf_values))]) (wr := []) S (v_acceptFirst  (by omega) (by omega)) (cwV 0 hts gX6_feedStatement_X6_acceptFirst rfl rfl rfl ⟨rfl, hd_X6_acceptFirst⟩ ⟨Nat.le_of_ble_eq_true rfl, Nat.le_of_ble_eq_true rfl⟩) hK hP hD hS hA [1, 2, 3, 0] [] rfl rfl (by decide +kernel) (by decide +kernel) (by decide +kernel) (va_recv hK.1 hPc (ci := 6) (q0 := 0) rfl rfl) rfl hl.1 rfl (Nat.le_of_ble_eq_true rfl) dX6_feedStatement_31 ⟨Nat.le_of_ble_eq_true rfl, Nat.le_of_ble_eq_true rfl⟩ (fun r_11 u_11 H locs hw_11 hP hD hS => ?_)
      obtain ⟨n1_11, n2_11⟩ := u_11
      have hw_11 : (r_11.toInt = 0 ∨ r_11.toInt = 1) := hw_11
      have hP : va_P D vwCl [(h, .inr (6, [.ref a_tokens, .ref a_kinds, .ref a_firsts, .ref a_seconds, .int v_size, .int n1_11, .int n2_11, .int v_second])), (a_tokens, .inr (9, [.ref ta_kinds, .ref ta_places, .ref ta_values, .int tv_size, .int tv_textLength])), (ta_kinds, .inl (cI, 97, .inl tf_kinds)), (ta_values, .inl (cI, 97, .inl tf_values))] H := hP
      have hD := asD hP hD
      refine lv_if_eq (tgt := 48) hx hb dX6_feedStatement_34 (by decide) (fun c_12 => ?_) (fun c_12 => ?_)
      · have tc_12 := t_eq c_12
        refine lv_iconst (v := (-1)) hx hb dX6_feedStatement_48 (by decide) ?_
        exact hret (-1) (n1_11, n2_11, v_second) _ _ _ _ (show True from trivial) rfl (hP.sub [0, 1, 2, 3] rfl) (hD.sub [0, 1, 2, 3] (by decide +kernel) rfl) hS dX6_feedStatement_49
      · have tc_12 := t_neq c_12
        refine lv_aload_n hx hb dX6_feedStatement_37 rfl (lv_at hl 0 rfl) ?_
        have hPc := hP.sub (ws' := [(h, .inr (6, [.ref a_tokens, .ref a_kinds, .ref a_firsts, .ref a_seconds, .int v_size, .int n1_11, .int n2_11, .int v_second])), (a_tokens, .inr (9, [.ref ta_kinds, .ref ta_places, .ref ta_values, .int tv_size, .int tv_textLength])), (ta_kinds, .inl (cI, 97, .inl tf_kinds)), (ta_values, .inl (cI, 97, .inl tf_values))]) [0, 1, 2, 3] rfl
        refine rwV (As := []) (rest := []) (wc := [(h, .inr (6, [.ref a_tokens, .ref a_kinds, .ref a_firsts, .ref a_seconds, .int v_size, .int n1_11, .int n2_11, .int v_second])), (a_tokens, .inr (9, [.ref ta_kinds, .ref ta_places, .ref ta_values, .int tv_size, .int tv_textLength])), (ta_kinds, .inl (cI, 97, .inl tf_kinds)), (ta_values, .inl (cI, 97, .inl tf_values))]) (wr := []) S (v_acceptSecond  (by omega) (by omega)) (cwV 0 hts gX6_feedStatement_X6_acceptSecond rfl rfl rfl ⟨rfl, hd_X6_acceptSecond⟩ ⟨Nat.le_of_ble_eq_true rfl, Nat.le_of_ble_eq_true rfl⟩) hK hP hD hS hA [0, 1, 2, 3] [] rfl rfl (by decide +kernel) (by decide +kernel) (by decide +kernel) (va_recv hK.1 hPc (ci := 6) (q0 := 0) rfl rfl) rfl hl.1 rfl (Nat.le_of_ble_eq_true rfl) dX6_feedStatement_38 ⟨Nat.le_of_ble_eq_true rfl, Nat.le_of_ble_eq_true rfl⟩ (fun r_13 u_13 H locs hw_13 hP hD hS => ?_)
        obtain ⟨n1_13, n2_13⟩ := u_13
        have hw_13 : (r_13.toInt = 0 ∨ r_13.toInt = 1) := hw_13
        have hP : va_P D vwCl [(h, .inr (6, [.ref a_tokens, .ref a_kinds, .ref a_firsts, .ref a_seconds, .int v_size, .int n1_13, .int n2_11, .int n2_13])), (a_tokens, .inr (9, [.ref ta_kinds, .ref ta_places, .ref ta_values, .int tv_size, .int tv_textLength])), (ta_kinds, .inl (cI, 97, .inl tf_kinds)), (ta_values, .inl (cI, 97, .inl tf_values))] H := hP
        have hD := asD hP hD
        refine lv_if_eq (tgt := 48) hx hb dX6_feedStatement_41 (by decide) (fun c_14 => ?_) (fun c_14 => ?_)
        · have tc_14 := t_eq c_14
          refine lv_iconst (v := (-1)) hx hb dX6_feedStatement_48 (by decide) ?_
          exact hret (-1) (n1_13, n2_11, n2_13) _ _ _ _ (show True from trivial) rfl (hP.sub [0, 1, 2, 3] rfl) (hD.sub [0, 1, 2, 3] (by decide +kernel) rfl) hS dX6_feedStatement_49
        · have tc_14 := t_neq c_14
          refine lv_iconst (v := 4) hx hb dX6_feedStatement_44 (by decide) ?_
          refine lv_goto (tgt := 49) hx hb dX6_feedStatement_45 (by decide) ?_
          exact hret 4 (n1_13, n2_11, n2_13) _ _ _ _ (show True from trivial) rfl (hP.sub [0, 1, 2, 3] rfl) (hD.sub [0, 1, 2, 3] (by decide +kernel) rfl) hS dX6_feedStatement_49
  · have tc_2 := t_neq c_2
    refine lv_aload_n hx hb dX6_feedStatement_8 rfl (lv_at hl 0 rfl) ?_
    have hPc := hP.sub (ws' := [(h, .inr (6, [.ref a_tokens, .ref a_kinds, .ref a_firsts, .ref a_seconds, .int v_size, .int n1_1, .int v_first, .int v_second])), (a_tokens, .inr (9, [.ref ta_kinds, .ref ta_places, .ref ta_values, .int tv_size, .int tv_textLength])), (ta_kinds, .inl (cI, 97, .inl tf_kinds)), (ta_values, .inl (cI, 97, .inl tf_values))]) [1, 2, 3, 0] rfl
    refine rwV (As := []) (rest := []) (wc := [(h, .inr (6, [.ref a_tokens, .ref a_kinds, .ref a_firsts, .ref a_seconds, .int v_size, .int n1_1, .int v_first, .int v_second])), (a_tokens, .inr (9, [.ref ta_kinds, .ref ta_places, .ref ta_values, .int tv_size, .int tv_textLength])), (ta_kinds, .inl (cI, 97, .inl tf_kinds)), (ta_values, .inl (cI, 97, .inl tf_values))]) (wr := []) S (v_acceptSecond  (by omega) (by omega)) (cwV 0 hts gX6_feedStatement_X6_acceptSecond rfl rfl rfl ⟨rfl, hd_X6_acceptSecond⟩ ⟨Nat.le_of_ble_eq_true rfl, Nat.le_of_ble_eq_true rfl⟩) hK hP hD hS hA [1, 2, 3, 0] [] rfl rfl (by decide +kernel) (by decide +kernel) (by decide +kernel) (va_recv hK.1 hPc (ci := 6) (q0 := 0) rfl rfl) rfl hl.1 rfl (Nat.le_of_ble_eq_true rfl) dX6_feedStatement_9 ⟨Nat.le_of_ble_eq_true rfl, Nat.le_of_ble_eq_true rfl⟩ (fun r_15 u_15 H locs hw_15 hP hD hS => ?_)
    obtain ⟨n1_15, n2_15⟩ := u_15
    have hw_15 : (r_15.toInt = 0 ∨ r_15.toInt = 1) := hw_15
    have hP : va_P D vwCl [(h, .inr (6, [.ref a_tokens, .ref a_kinds, .ref a_firsts, .ref a_seconds, .int v_size, .int n1_15, .int v_first, .int n2_15])), (a_tokens, .inr (9, [.ref ta_kinds, .ref ta_places, .ref ta_values, .int tv_size, .int tv_textLength])), (ta_kinds, .inl (cI, 97, .inl tf_kinds)), (ta_values, .inl (cI, 97, .inl tf_values))] H := hP
    have hD := asD hP hD
    refine lv_if_eq (tgt := 19) hx hb dX6_feedStatement_12 (by decide) (fun c_16 => ?_) (fun c_16 => ?_)
    · have tc_16 := t_eq c_16
      refine lv_iconst (v := (-1)) hx hb dX6_feedStatement_19 (by decide) ?_
      exact hret (-1) (n1_15, v_first, n2_15) _ _ _ _ (show True from trivial) rfl (hP.sub [0, 1, 2, 3] rfl) (hD.sub [0, 1, 2, 3] (by decide +kernel) rfl) hS dX6_feedStatement_20
    · have tc_16 := t_neq c_16
      refine lv_iconst (v := 3) hx hb dX6_feedStatement_15 (by decide) ?_
      refine lv_goto (tgt := 20) hx hb dX6_feedStatement_16 (by decide) ?_
      exact hret 3 (n1_15, v_first, n2_15) _ _ _ _ (show True from trivial) rfl (hP.sub [0, 1, 2, 3] rfl) (hD.sub [0, 1, 2, 3] (by decide +kernel) rfl) hS dX6_feedStatement_20

theorem in_v_statement_X6 : ∀ w ∈ wsX60, w ∈ wsX6_statement := tl_X6_statement_X6
set_option maxHeartbeats 8000000 in
set_option maxRecDepth 100000 in
theorem v_statement {l : Launch} {D : va_G} {cI cZ cB : ClassId} {sz : Nat} {h a_tokens a_kinds a_firsts a_seconds ta_kinds ta_places ta_values : Nat} {v_size v_next v_first v_second tv_size tv_textLength : Int32} {tf_kinds tf_values : Nat → Int32}  (htv_size0 : 0 ≤ tv_size.toInt) (htv_size1 : tv_size.toInt ≤ 97) : Met l yX6_statement wsX6_statement ({ frames := 4, cells := 0, slots := 0, locals := 83 }) (RW D cI cZ cB [.ref h] sz [(h, .inr (6, [.ref a_tokens, .ref a_kinds, .ref a_firsts, .ref a_seconds, .int v_size, .int v_next, .int v_first, .int v_second])), (a_tokens, .inr (9, [.ref ta_kinds, .ref ta_places, .ref ta_values, .int tv_size, .int tv_textLength])), (ta_kinds, .inl (cI, 97, .inl tf_kinds)), (ta_values, .inl (cI, 97, .inl tf_values))]) (va_Qi (fun (r : Int32) (u : Int32 × Int32 × Int32) => True) (BW D [(h, .inr (6, [.ref a_tokens, .ref a_kinds, .ref a_firsts, .ref a_seconds, .int v_size, .int v_next, .int v_first, .int v_second])), (a_tokens, .inr (9, [.ref ta_kinds, .ref ta_places, .ref ta_values, .int tv_size, .int tv_textLength])), (ta_kinds, .inl (cI, 97, .inl tf_kinds)), (ta_values, .inl (cI, 97, .inl tf_values))] sz (fun u : Int32 × Int32 × Int32 => [(h, .inr (6, [.ref a_tokens, .ref a_kinds, .ref a_firsts, .ref a_seconds, .int v_size, .int u.1, .int u.2.1, .int u.2.2])), (a_tokens, .inr (9, [.ref ta_kinds, .ref ta_places, .ref ta_values, .int tv_size, .int tv_textLength])), (ta_kinds, .inl (cI, 97, .inl tf_kinds)), (ta_values, .inl (cI, 97, .inl tf_values))])) (va_A [(h, .inr (6, [.ref a_tokens, .ref a_kinds, .ref a_firsts, .ref a_seconds, .int v_size, .int v_next, .int v_first, .int v_second])), (a_tokens, .inr (9, [.ref ta_kinds, .ref ta_places, .ref ta_values, .int tv_size, .int tv_textLength])), (ta_kinds, .inl (cI, 97, .inl tf_kinds)), (ta_values, .inl (cI, 97, .inl tf_values))] sz)) 0 0 (va_A [(h, .inr (6, [.ref a_tokens, .ref a_kinds, .ref a_firsts, .ref a_seconds, .int v_size, .int v_next, .int v_first, .int v_second])), (a_tokens, .inr (9, [.ref ta_kinds, .ref ta_places, .ref ta_values, .int tv_size, .int tv_textLength])), (ta_kinds, .inl (cI, 97, .inl tf_kinds)), (ta_values, .inl (cI, 97, .inl tf_values))] sz) := by
  refine rw_ret (cc := cX6_statement) (maxL := 2) (ty := .int) (own := RX6) (by decide) rfl rfl (Nat.le_of_ble_eq_true rfl) ?_
  intro p e s m args below meth c Q A S hin hret hP hK hD hA hS ls hl
  obtain ⟨hx, hb, hml, hown, hts⟩ := id S
  have hl : lv_has ls 2 [(0, .ref h)] := hl
  have kkm1 : (-1 : Int32).toInt = -1 := by decide
  have kk0 : (0 : Int32).toInt = 0 := by decide
  have kk2 : (2 : Int32).toInt = 2 := by decide
  have kk4 : (4 : Int32).toInt = 4 := by decide
  have kk8 : (8 : Int32).toInt = 8 := by decide
  have lk0 := hts (.fieldLink RX6 50 "AbbeyHours$RuleReader" "first" "I") (mc_X6_statement_r1 _ (List.mem_of_getElem? (i := 0) rfl))
  have lk1 := hts (.fieldLink RX6 53 "AbbeyHours$RuleReader" "second" "I") (mc_X6_statement_r1 _ (List.mem_of_getElem? (i := 1) rfl))
  refine lv_aload_n hx hb dX6_statement_0 rfl (lv_at hl 0 rfl) ?_
  refine lv_iconst (v := 0) hx hb dX6_statement_1 (by decide) ?_
  refine va_put (D := D) (ci := 6) (v := .int 0) (ty := .int) (C := RX6) (T := TX6) (N := 8) hx hb hts in_v_statement_X6 tyX6 tyX6_ok nmX6 hown hK.1 hP hD hS 0 rfl rfl 6 (by decide) lk0 (fun _ h9 => h9) rfl (by decide +kernel) rfl rfl (Nat.le_of_ble_eq_true rfl) dX6_statement_2 (fun H locs hP hD hS => ?_)
  have hP : va_P D vwCl [(h, .inr (6, [.ref a_tokens, .ref a_kinds, .ref a_firsts, .ref a_seconds, .int v_size, .int v_next, .int 0, .int v_second])), (a_tokens, .inr (9, [.ref ta_kinds, .ref ta_places, .ref ta_values, .int tv_size, .int tv_textLength])), (ta_kinds, .inl (cI, 97, .inl tf_kinds)), (ta_values, .inl (cI, 97, .inl tf_values))] H := hP
  have hD := asD hP hD
  refine lv_aload_n hx hb dX6_statement_5 rfl (lv_at hl 0 rfl) ?_
  refine lv_iconst (v := 0) hx hb dX6_statement_6 (by decide) ?_
  refine va_put (D := D) (ci := 6) (v := .int 0) (ty := .int) (C := RX6) (T := TX6) (N := 8) hx hb hts in_v_statement_X6 tyX6 tyX6_ok nmX6 hown hK.1 hP hD hS 0 rfl rfl 7 (by decide) lk1 (fun _ h9 => h9) rfl (by decide +kernel) rfl rfl (Nat.le_of_ble_eq_true rfl) dX6_statement_7 (fun H locs hP hD hS => ?_)
  have hP : va_P D vwCl [(h, .inr (6, [.ref a_tokens, .ref a_kinds, .ref a_firsts, .ref a_seconds, .int v_size, .int v_next, .int 0, .int 0])), (a_tokens, .inr (9, [.ref ta_kinds, .ref ta_places, .ref ta_values, .int tv_size, .int tv_textLength])), (ta_kinds, .inl (cI, 97, .inl tf_kinds)), (ta_values, .inl (cI, 97, .inl tf_values))] H := hP
  have hD := asD hP hD
  refine lv_iconst (v := (-1)) hx hb dX6_statement_10 (by decide) ?_
  refine lv_istore_n (lv' := [(1, .int (-1)), (0, .ref h)]) hx hb dX6_statement_11 rfl hl (by decide) rfl (fun ls hl => ?_)
  refine lv_aload_n hx hb dX6_statement_12 rfl (lv_at hl 1 rfl) ?_
  refine lv_iconst (v := 4) hx hb dX6_statement_13 (by decide) ?_
  have hPc := hP.sub (ws' := [(h, .inr (6, [.ref a_tokens, .ref a_kinds, .ref a_firsts, .ref a_seconds, .int v_size, .int v_next, .int 0, .int 0])), (a_tokens, .inr (9, [.ref ta_kinds, .ref ta_places, .ref ta_values, .int tv_size, .int tv_textLength])), (ta_kinds, .inl (cI, 97, .inl tf_kinds))]) [0, 1, 2] rfl
  refine rwV (As := [.int 4]) (rest := []) (wc := [(h, .inr (6, [.ref a_tokens, .ref a_kinds, .ref a_firsts, .ref a_seconds, .int v_size, .int v_next, .int 0, .int 0])), (a_tokens, .inr (9, [.ref ta_kinds, .ref ta_places, .ref ta_values, .int tv_size, .int tv_textLength])), (ta_kinds, .inl (cI, 97, .inl tf_kinds))]) (wr := [(ta_values, .inl (cI, 97, .inl tf_values))]) S (v_accept  (by omega) (by omega)) (cwV 1 hts gX6_statement_X6_accept rfl rfl rfl ⟨rfl, hd_X6_accept⟩ ⟨Nat.le_of_ble_eq_true rfl, Nat.le_of_ble_eq_true rfl⟩) hK hP hD hS hA [0, 1, 2] [3] rfl rfl (by decide +kernel) (by decide +kernel) (by decide +kernel) (va_recv hK.1 hPc (ci := 6) (q0 := 0) rfl rfl) rfl hl.1 rfl (Nat.le_of_ble_eq_true rfl) dX6_statement_14 ⟨Nat.le_of_ble_eq_true rfl, Nat.le_of_ble_eq_true rfl⟩ (fun r_1 u_1 H locs hw_1 hP hD hS => ?_)
  obtain ⟨n1_1, rfl⟩ : ∃ z, z = u_1 := ⟨_, rfl⟩
  have hw_1 : (r_1.toInt = 0 ∨ r_1.toInt = 1) := hw_1
  have hP : va_P D vwCl [(ta_values, .inl (cI, 97, .inl tf_values)), (h, .inr (6, [.ref a_tokens, .ref a_kinds, .ref a_firsts, .ref a_seconds, .int v_size, .int n1_1, .int 0, .int 0])), (a_tokens, .inr (9, [.ref ta_kinds, .ref ta_places, .ref ta_values, .int tv_size, .int tv_textLength])), (ta_kinds, .inl (cI, 97, .inl tf_kinds))] H := hP
  have hD := asD hP hD
  refine lv_if_eq (tgt := 28) hx hb dX6_statement_17 (by decide) (fun c_2 => ?_) (fun c_2 => ?_)
  · have tc_2 := t_eq c_2
    refine lv_aload_n hx hb dX6_statement_28 rfl (lv_at hl 1 rfl) ?_
    refine lv_bipush (v := 8) hx hb dX6_statement_29 (by decide) ?_
    have hPc := hP.sub (ws' := [(h, .inr (6, [.ref a_tokens, .ref a_kinds, .ref a_firsts, .ref a_seconds, .int v_size, .int n1_1, .int 0, .int 0])), (a_tokens, .inr (9, [.ref ta_kinds, .ref ta_places, .ref ta_values, .int tv_size, .int tv_textLength])), (ta_kinds, .inl (cI, 97, .inl tf_kinds))]) [1, 2, 3] rfl
    refine rwV (As := [.int 8]) (rest := []) (wc := [(h, .inr (6, [.ref a_tokens, .ref a_kinds, .ref a_firsts, .ref a_seconds, .int v_size, .int n1_1, .int 0, .int 0])), (a_tokens, .inr (9, [.ref ta_kinds, .ref ta_places, .ref ta_values, .int tv_size, .int tv_textLength])), (ta_kinds, .inl (cI, 97, .inl tf_kinds))]) (wr := [(ta_values, .inl (cI, 97, .inl tf_values))]) S (v_accept  (by omega) (by omega)) (cwV 1 hts gX6_statement_X6_accept rfl rfl rfl ⟨rfl, hd_X6_accept⟩ ⟨Nat.le_of_ble_eq_true rfl, Nat.le_of_ble_eq_true rfl⟩) hK hP hD hS hA [1, 2, 3] [0] rfl rfl (by decide +kernel) (by decide +kernel) (by decide +kernel) (va_recv hK.1 hPc (ci := 6) (q0 := 0) rfl rfl) rfl hl.1 rfl (Nat.le_of_ble_eq_true rfl) dX6_statement_31 ⟨Nat.le_of_ble_eq_true rfl, Nat.le_of_ble_eq_true rfl⟩ (fun r_3 u_3 H locs hw_3 hP hD hS => ?_)
    obtain ⟨n1_3, rfl⟩ : ∃ z, z = u_3 := ⟨_, rfl⟩
    have hw_3 : (r_3.toInt = 0 ∨ r_3.toInt = 1) := hw_3
    have hP : va_P D vwCl [(ta_values, .inl (cI, 97, .inl tf_values)), (h, .inr (6, [.ref a_tokens, .ref a_kinds, .ref a_firsts, .ref a_seconds, .int v_size, .int n1_3, .int 0, .int 0])), (a_tokens, .inr (9, [.ref ta_kinds, .ref ta_places, .ref ta_values, .int tv_size, .int tv_textLength])), (ta_kinds, .inl (cI, 97, .inl tf_kinds))] H := hP
    have hD := asD hP hD
    refine lv_if_eq (tgt := 42) hx hb dX6_statement_34 (by decide) (fun c_4 => ?_) (fun c_4 => ?_)
    · have tc_4 := t_eq c_4
      refine lv_iload_n hx hb dX6_statement_42 rfl (lv_at hl 0 rfl) ?_
      refine lv_iconst (v := (-1)) hx hb dX6_statement_43 (by decide) ?_
      refine lv_icmp_eq (tgt := 59) hx hb dX6_statement_44 (by decide) (fun c_5 => ?_) (fun c_5 => ?_)
      · have tc_5 := t_eq c_5
        refine lv_iconst (v := (-1)) hx hb dX6_statement_59 (by decide) ?_
        exact hret (-1) (n1_3, 0, 0) _ _ _ _ (show True from trivial) rfl (hP.sub [1, 2, 3, 0] rfl) (hD.sub [1, 2, 3, 0] (by decide +kernel) rfl) hS dX6_statement_60
      · exact absurd c_5 (by decide)
    · have tc_4 := t_neq c_4
      refine lv_aload_n hx hb dX6_statement_37 rfl (lv_at hl 1 rfl) ?_
      have hPc := hP.sub (ws' := [(h, .inr (6, [.ref a_tokens, .ref a_kinds, .ref a_firsts, .ref a_seconds, .int v_size, .int n1_3, .int 0, .int 0])), (a_tokens, .inr (9, [.ref ta_kinds, .ref ta_places, .ref ta_values, .int tv_size, .int tv_textLength])), (ta_kinds, .inl (cI, 97, .inl tf_kinds)), (ta_values, .inl (cI, 97, .inl tf_values))]) [1, 2, 3, 0] rfl
      refine rwV (As := []) (rest := []) (wc := [(h, .inr (6, [.ref a_tokens, .ref a_kinds, .ref a_firsts, .ref a_seconds, .int v_size, .int n1_3, .int 0, .int 0])), (a_tokens, .inr (9, [.ref ta_kinds, .ref ta_places, .ref ta_values, .int tv_size, .int tv_textLength])), (ta_kinds, .inl (cI, 97, .inl tf_kinds)), (ta_values, .inl (cI, 97, .inl tf_values))]) (wr := []) S (v_feedSt  (by omega) (by omega)) (cwV 0 hts gX6_statement_X6_feedStatement rfl rfl rfl ⟨rfl, hd_X6_feedStatement⟩ ⟨Nat.le_of_ble_eq_true rfl, Nat.le_of_ble_eq_true rfl⟩) hK hP hD hS hA [1, 2, 3, 0] [] rfl rfl (by decide +kernel) (by decide +kernel) (by decide +kernel) (va_recv hK.1 hPc (ci := 6) (q0 := 0) rfl rfl) rfl hl.1 rfl (Nat.le_of_ble_eq_true rfl) dX6_statement_38 ⟨Nat.le_of_ble_eq_true rfl, Nat.le_of_ble_eq_true rfl⟩ (fun r_6 u_6 H locs hw_6 hP hD hS => ?_)
      obtain ⟨n1_6, n2_6, n3_6⟩ := u_6
      have hw_6 : True := hw_6
      have hP : va_P D vwCl [(h, .inr (6, [.ref a_tokens, .ref a_kinds, .ref a_firsts, .ref a_seconds, .int v_size, .int n1_6, .int n2_6, .int n3_6])), (a_tokens, .inr (9, [.ref ta_kinds, .ref ta_places, .ref ta_values, .int tv_size, .int tv_textLength])), (ta_kinds, .inl (cI, 97, .inl tf_kinds)), (ta_values, .inl (cI, 97, .inl tf_values))] H := hP
      have hD := asD hP hD
      refine lv_istore_n (lv' := [(1, .int r_6), (0, .ref h)]) hx hb dX6_statement_41 rfl hl (by decide) rfl (fun ls hl => ?_)
      refine lv_iload_n hx hb dX6_statement_42 rfl (lv_at hl 0 rfl) ?_
      refine lv_iconst (v := (-1)) hx hb dX6_statement_43 (by decide) ?_
      refine lv_icmp_eq (tgt := 59) hx hb dX6_statement_44 (by decide) (fun c_7 => ?_) (fun c_7 => ?_)
      · have tc_7 := t_eq c_7
        refine lv_iconst (v := (-1)) hx hb dX6_statement_59 (by decide) ?_
        exact hret (-1) (n1_6, n2_6, n3_6) _ _ _ _ (show True from trivial) rfl (hP.sub [0, 1, 2, 3] rfl) (hD.sub [0, 1, 2, 3] (by decide +kernel) rfl) hS dX6_statement_60
      · have tc_7 := t_neq c_7
        refine lv_aload_n hx hb dX6_statement_47 rfl (lv_at hl 1 rfl) ?_
        refine lv_iconst (v := 2) hx hb dX6_statement_48 (by decide) ?_
        have hPc := hP.sub (ws' := [(h, .inr (6, [.ref a_tokens, .ref a_kinds, .ref a_firsts, .ref a_seconds, .int v_size, .int n1_6, .int n2_6, .int n3_6])), (a_tokens, .inr (9, [.ref ta_kinds, .ref ta_places, .ref ta_values, .int tv_size, .int tv_textLength])), (ta_kinds, .inl (cI, 97, .inl tf_kinds))]) [0, 1, 2] rfl
        refine rwV (As := [.int 2]) (rest := []) (wc := [(h, .inr (6, [.ref a_tokens, .ref a_kinds, .ref a_firsts, .ref a_seconds, .int v_size, .int n1_6, .int n2_6, .int n3_6])), (a_tokens, .inr (9, [.ref ta_kinds, .ref ta_places, .ref ta_values, .int tv_size, .int tv_textLength])), (ta_kinds, .inl (cI, 97, .inl tf_kinds))]) (wr := [(ta_values, .inl (cI, 97, .inl tf_values))]) S (v_accept  (by omega) (by omega)) (cwV 1 hts gX6_statement_X6_accept rfl rfl rfl ⟨rfl, hd_X6_accept⟩ ⟨Nat.le_of_ble_eq_true rfl, Nat.le_of_ble_eq_true rfl⟩) hK hP hD hS hA [0, 1, 2] [3] rfl rfl (by decide +kernel) (by decide +kernel) (by decide +kernel) (va_recv hK.1 hPc (ci := 6) (q0 := 0) rfl rfl) rfl hl.1 rfl (Nat.le_of_ble_eq_true rfl) dX6_statement_49 ⟨Nat.le_of_ble_eq_true rfl, Nat.le_of_ble_eq_true rfl⟩ (fun r_8 u_8 H locs hw_8 hP hD hS => ?_)
        obtain ⟨n1_8, rfl⟩ : ∃ z, z = u_8 := ⟨_, rfl⟩
        have hw_8 : (r_8.toInt = 0 ∨ r_8.toInt = 1) := hw_8
        have hP : va_P D vwCl [(ta_values, .inl (cI, 97, .inl tf_values)), (h, .inr (6, [.ref a_tokens, .ref a_kinds, .ref a_firsts, .ref a_seconds, .int v_size, .int n1_8, .int n2_6, .int n3_6])), (a_tokens, .inr (9, [.ref ta_kinds, .ref ta_places, .ref ta_values, .int tv_size, .int tv_textLength])), (ta_kinds, .inl (cI, 97, .inl tf_kinds))] H := hP
        have hD := asD hP hD
        refine lv_if_eq (tgt := 59) hx hb dX6_statement_52 (by decide) (fun c_9 => ?_) (fun c_9 => ?_)
        · have tc_9 := t_eq c_9
          refine lv_iconst (v := (-1)) hx hb dX6_statement_59 (by decide) ?_
          exact hret (-1) (n1_8, n2_6, n3_6) _ _ _ _ (show True from trivial) rfl (hP.sub [1, 2, 3, 0] rfl) (hD.sub [1, 2, 3, 0] (by decide +kernel) rfl) hS dX6_statement_60
        · have tc_9 := t_neq c_9
          refine lv_iload_n hx hb dX6_statement_55 rfl (lv_at hl 0 rfl) ?_
          refine lv_goto (tgt := 60) hx hb dX6_statement_56 (by decide) ?_
          exact hret r_6 (n1_8, n2_6, n3_6) _ _ _ _ (show True from trivial) rfl (hP.sub [1, 2, 3, 0] rfl) (hD.sub [1, 2, 3, 0] (by decide +kernel) rfl) hS dX6_statement_60
  · have tc_2 := t_neq c_2
    refine lv_aload_n hx hb dX6_statement_20 rfl (lv_at hl 1 rfl) ?_
    have hPc := hP.sub (ws' := [(h, .inr (6, [.ref a_tokens, .ref a_kinds, .ref a_firsts, .ref a_seconds, .int v_size, .int n1_1, .int 0, .int 0])), (a_tokens, .inr (9, [.ref ta_kinds, .ref ta_places, .ref ta_values, .int tv_size, .int tv_textLength])), (ta_kinds, .inl (cI, 97, .inl tf_kinds)), (ta_values, .inl (cI, 97, .inl tf_values))]) [1, 2, 3, 0] rfl
    refine rwV (As := []) (rest := []) (wc := [(h, .inr (6, [.ref a_tokens, .ref a_kinds, .ref a_firsts, .ref a_seconds, .int v_size, .int n1_1, .int 0, .int 0])), (a_tokens, .inr (9, [.ref ta_kinds, .ref ta_places, .ref ta_values, .int tv_size, .int tv_textLength])), (ta_kinds, .inl (cI, 97, .inl tf_kinds)), (ta_values, .inl (cI, 97, .inl tf_values))]) (wr := []) S (v_fastSt  (by omega) (by omega)) (cwV 0 hts gX6_statement_X6_fastStatement rfl rfl rfl ⟨rfl, hd_X6_fastStatement⟩ ⟨Nat.le_of_ble_eq_true rfl, Nat.le_of_ble_eq_true rfl⟩) hK hP hD hS hA [1, 2, 3, 0] [] rfl rfl (by decide +kernel) (by decide +kernel) (by decide +kernel) (va_recv hK.1 hPc (ci := 6) (q0 := 0) rfl rfl) rfl hl.1 rfl (Nat.le_of_ble_eq_true rfl) dX6_statement_21 ⟨Nat.le_of_ble_eq_true rfl, Nat.le_of_ble_eq_true rfl⟩ (fun r_10 u_10 H locs hw_10 hP hD hS => ?_)
    obtain ⟨n1_10, n2_10, n3_10⟩ := u_10
    have hw_10 : True := hw_10
    have hP : va_P D vwCl [(h, .inr (6, [.ref a_tokens, .ref a_kinds, .ref a_firsts, .ref a_seconds, .int v_size, .int n1_10, .int n2_10, .int n3_10])), (a_tokens, .inr (9, [.ref ta_kinds, .ref ta_places, .ref ta_values, .int tv_size, .int tv_textLength])), (ta_kinds, .inl (cI, 97, .inl tf_kinds)), (ta_values, .inl (cI, 97, .inl tf_values))] H := hP
    have hD := asD hP hD
    refine lv_istore_n (lv' := [(1, .int r_10), (0, .ref h)]) hx hb dX6_statement_24 rfl hl (by decide) rfl (fun ls hl => ?_)
    refine lv_goto (tgt := 42) hx hb dX6_statement_25 (by decide) ?_
    refine lv_iload_n hx hb dX6_statement_42 rfl (lv_at hl 0 rfl) ?_
    refine lv_iconst (v := (-1)) hx hb dX6_statement_43 (by decide) ?_
    refine lv_icmp_eq (tgt := 59) hx hb dX6_statement_44 (by decide) (fun c_11 => ?_) (fun c_11 => ?_)
    · have tc_11 := t_eq c_11
      refine lv_iconst (v := (-1)) hx hb dX6_statement_59 (by decide) ?_
      exact hret (-1) (n1_10, n2_10, n3_10) _ _ _ _ (show True from trivial) rfl (hP.sub [0, 1, 2, 3] rfl) (hD.sub [0, 1, 2, 3] (by decide +kernel) rfl) hS dX6_statement_60
    · have tc_11 := t_neq c_11
      refine lv_aload_n hx hb dX6_statement_47 rfl (lv_at hl 1 rfl) ?_
      refine lv_iconst (v := 2) hx hb dX6_statement_48 (by decide) ?_
      have hPc := hP.sub (ws' := [(h, .inr (6, [.ref a_tokens, .ref a_kinds, .ref a_firsts, .ref a_seconds, .int v_size, .int n1_10, .int n2_10, .int n3_10])), (a_tokens, .inr (9, [.ref ta_kinds, .ref ta_places, .ref ta_values, .int tv_size, .int tv_textLength])), (ta_kinds, .inl (cI, 97, .inl tf_kinds))]) [0, 1, 2] rfl
      refine rwV (As := [.int 2]) (rest := []) (wc := [(h, .inr (6, [.ref a_tokens, .ref a_kinds, .ref a_firsts, .ref a_seconds, .int v_size, .int n1_10, .int n2_10, .int n3_10])), (a_tokens, .inr (9, [.ref ta_kinds, .ref ta_places, .ref ta_values, .int tv_size, .int tv_textLength])), (ta_kinds, .inl (cI, 97, .inl tf_kinds))]) (wr := [(ta_values, .inl (cI, 97, .inl tf_values))]) S (v_accept  (by omega) (by omega)) (cwV 1 hts gX6_statement_X6_accept rfl rfl rfl ⟨rfl, hd_X6_accept⟩ ⟨Nat.le_of_ble_eq_true rfl, Nat.le_of_ble_eq_true rfl⟩) hK hP hD hS hA [0, 1, 2] [3] rfl rfl (by decide +kernel) (by decide +kernel) (by decide +kernel) (va_recv hK.1 hPc (ci := 6) (q0 := 0) rfl rfl) rfl hl.1 rfl (Nat.le_of_ble_eq_true rfl) dX6_statement_49 ⟨Nat.le_of_ble_eq_true rfl, Nat.le_of_ble_eq_true rfl⟩ (fun r_12 u_12 H locs hw_12 hP hD hS => ?_)
      obtain ⟨n1_12, rfl⟩ : ∃ z, z = u_12 := ⟨_, rfl⟩
      have hw_12 : (r_12.toInt = 0 ∨ r_12.toInt = 1) := hw_12
      have hP : va_P D vwCl [(ta_values, .inl (cI, 97, .inl tf_values)), (h, .inr (6, [.ref a_tokens, .ref a_kinds, .ref a_firsts, .ref a_seconds, .int v_size, .int n1_12, .int n2_10, .int n3_10])), (a_tokens, .inr (9, [.ref ta_kinds, .ref ta_places, .ref ta_values, .int tv_size, .int tv_textLength])), (ta_kinds, .inl (cI, 97, .inl tf_kinds))] H := hP
      have hD := asD hP hD
      refine lv_if_eq (tgt := 59) hx hb dX6_statement_52 (by decide) (fun c_13 => ?_) (fun c_13 => ?_)
      · have tc_13 := t_eq c_13
        refine lv_iconst (v := (-1)) hx hb dX6_statement_59 (by decide) ?_
        exact hret (-1) (n1_12, n2_10, n3_10) _ _ _ _ (show True from trivial) rfl (hP.sub [1, 2, 3, 0] rfl) (hD.sub [1, 2, 3, 0] (by decide +kernel) rfl) hS dX6_statement_60
      · have tc_13 := t_neq c_13
        refine lv_iload_n hx hb dX6_statement_55 rfl (lv_at hl 0 rfl) ?_
        refine lv_goto (tgt := 60) hx hb dX6_statement_56 (by decide) ?_
        exact hret r_10 (n1_12, n2_10, n3_10) _ _ _ _ (show True from trivial) rfl (hP.sub [1, 2, 3, 0] rfl) (hD.sub [1, 2, 3, 0] (by decide +kernel) rfl) hS dX6_statement_60

