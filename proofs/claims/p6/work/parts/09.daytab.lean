theorem in_d4_isCell_X1 : ∀ w ∈ wsX10, w ∈ wsX1_isCell := tl_X1_isCell_X1
set_option maxHeartbeats 8000000 in
set_option maxRecDepth 100000 in
theorem d4_isCell {l : Launch} {D : va_G} {cI cZ cB : ClassId} {h ac : Nat} {d k : Int32}  : Met l yX1_isCell wsX1_isCell ({ frames := 0, cells := 0, slots := 0, locals := 0 }) (RO D cI cZ cB [.ref h, .int d, .int k] [(h, .inr (1, [.int 4, .ref ac]))]) (vp_Si (fun r : Int32 => (r.toInt = 1 ∧ 0 ≤ d.toInt ∧ d.toInt < 1095 ∧ 0 ≤ k.toInt ∧ k.toInt < 4) ∨ (r.toInt = 0 ∧ (d.toInt < 0 ∨ 1095 ≤ d.toInt ∨ k.toInt < 0 ∨ 4 ≤ k.toInt)))) 0 0 (fun _ => False) := by
  refine ro_ret (cc := cX1_isCell) (maxL := 3) (ty := .boolean) (own := RX1) (by decide) rfl rfl (Nat.le_of_ble_eq_true rfl) ?_
  intro p e s m args below meth c Q S hret hP hK ls hl
  obtain ⟨hx, hb, hml, hown, hts⟩ := id S
  have hl : lv_has ls 3 [(0, .ref h), (1, .int d), (2, .int k)] := hl
  have kk0 : (0 : Int32).toInt = 0 := by decide
  have kk1 : (1 : Int32).toInt = 1 := by decide
  have kk4 : (4 : Int32).toInt = 4 := by decide
  have kk1095 : (1095 : Int32).toInt = 1095 := by decide
  have lk0 := hts (.fieldLink RX1 15 "AbbeyHours$DayTable" "width" "I") (List.mem_cons_of_mem _ (List.mem_append_left _ (List.mem_of_getElem? (i := 0) rfl)))
  refine lv_iload_n hx hb dX1_isCell_0 rfl (lv_at hl 1 rfl) ?_
  refine lv_if_lt (tgt := 27) hx hb dX1_isCell_1 (by decide) (fun c_1 => ?_) (fun c_1 => ?_)
  · have tc_1 := t_lt c_1
    refine lv_iconst (v := 0) hx hb dX1_isCell_27 (by decide) ?_
    exact hret 0 _ _ (show ((0 : Int32).toInt = 1 ∧ 0 ≤ d.toInt ∧ d.toInt < 1095 ∧ 0 ≤ k.toInt ∧ k.toInt < 4) ∨ ((0 : Int32).toInt = 0 ∧ (d.toInt < 0 ∨ 1095 ≤ d.toInt ∨ k.toInt < 0 ∨ 4 ≤ k.toInt)) from by omega) rfl dX1_isCell_28
  · have tc_1 := t_nlt c_1
    refine lv_iload_n hx hb dX1_isCell_4 rfl (lv_at hl 1 rfl) ?_
    refine lv_sipush (v := 1095) hx hb dX1_isCell_5 (by decide) ?_
    refine lv_icmp_ge (tgt := 27) hx hb dX1_isCell_8 (by decide) (fun c_2 => ?_) (fun c_2 => ?_)
    · have tc_2 := t_le c_2
      refine lv_iconst (v := 0) hx hb dX1_isCell_27 (by decide) ?_
      exact hret 0 _ _ (show ((0 : Int32).toInt = 1 ∧ 0 ≤ d.toInt ∧ d.toInt < 1095 ∧ 0 ≤ k.toInt ∧ k.toInt < 4) ∨ ((0 : Int32).toInt = 0 ∧ (d.toInt < 0 ∨ 1095 ≤ d.toInt ∨ k.toInt < 0 ∨ 4 ≤ k.toInt)) from by omega) rfl dX1_isCell_28
    · have tc_2 := t_nle c_2
      refine lv_iload_n hx hb dX1_isCell_11 rfl (lv_at hl 2 rfl) ?_
      refine lv_if_lt (tgt := 27) hx hb dX1_isCell_12 (by decide) (fun c_3 => ?_) (fun c_3 => ?_)
      · have tc_3 := t_lt c_3
        refine lv_iconst (v := 0) hx hb dX1_isCell_27 (by decide) ?_
        exact hret 0 _ _ (show ((0 : Int32).toInt = 1 ∧ 0 ≤ d.toInt ∧ d.toInt < 1095 ∧ 0 ≤ k.toInt ∧ k.toInt < 4) ∨ ((0 : Int32).toInt = 0 ∧ (d.toInt < 0 ∨ 1095 ≤ d.toInt ∨ k.toInt < 0 ∨ 4 ≤ k.toInt)) from by omega) rfl dX1_isCell_28
      · have tc_3 := t_nlt c_3
        refine lv_iload_n hx hb dX1_isCell_15 rfl (lv_at hl 2 rfl) ?_
        refine lv_aload_n hx hb dX1_isCell_16 rfl (lv_at hl 0 rfl) ?_
        refine va_get (D := D) (ci := 1) (v := .int 4) (C := RX1) (T := TX1) (N := 2) hx hb hts in_d4_isCell_X1 hown hK.1 hP 0 rfl rfl 0 (by decide) lk0 (fun _ h9 => h9) rfl dX1_isCell_17 ?_
        refine lv_icmp_ge (tgt := 27) hx hb dX1_isCell_20 (by decide) (fun c_4 => ?_) (fun c_4 => ?_)
        · have tc_4 := t_le c_4
          refine lv_iconst (v := 0) hx hb dX1_isCell_27 (by decide) ?_
          exact hret 0 _ _ (show ((0 : Int32).toInt = 1 ∧ 0 ≤ d.toInt ∧ d.toInt < 1095 ∧ 0 ≤ k.toInt ∧ k.toInt < 4) ∨ ((0 : Int32).toInt = 0 ∧ (d.toInt < 0 ∨ 1095 ≤ d.toInt ∨ k.toInt < 0 ∨ 4 ≤ k.toInt)) from by omega) rfl dX1_isCell_28
        · have tc_4 := t_nle c_4
          refine lv_iconst (v := 1) hx hb dX1_isCell_23 (by decide) ?_
          refine lv_goto (tgt := 28) hx hb dX1_isCell_24 (by decide) ?_
          exact hret 1 _ _ (show ((1 : Int32).toInt = 1 ∧ 0 ≤ d.toInt ∧ d.toInt < 1095 ∧ 0 ≤ k.toInt ∧ k.toInt < 4) ∨ ((1 : Int32).toInt = 0 ∧ (d.toInt < 0 ∨ 1095 ≤ d.toInt ∨ k.toInt < 0 ∨ 4 ≤ k.toInt)) from by omega) rfl dX1_isCell_28

theorem in_d4_at_X1 : ∀ w ∈ wsX10, w ∈ wsX1_at := tl_X1_at_X1
set_option maxHeartbeats 8000000 in
set_option maxRecDepth 100000 in
theorem d4_at {l : Launch} {D : va_G} {cI cZ cB : ClassId} {h ac L : Nat} {fc : Nat → Int32} {d k : Int32} (hL : L < 65536) : Met l yX1_at wsX1_at ({ frames := 1, cells := 0, slots := 0, locals := 22 }) (RO D cI cZ cB [.ref h, .int d, .int k] [(h, .inr (1, [.int 4, .ref ac])), (ac, .inl (cI, L, .inl fc))]) (vp_Si (fun r : Int32 => True)) 0 0 (fun _ => False) := by
  refine ro_ret (cc := cX1_at) (maxL := 3) (ty := .int) (own := RX1) (by decide) rfl rfl (Nat.le_of_ble_eq_true rfl) ?_
  intro p e s m args below meth c Q S hret hP hK ls hl
  obtain ⟨hx, hb, hml, hown, hts⟩ := id S
  have hl : lv_has ls 3 [(0, .ref h), (1, .int d), (2, .int k)] := hl
  have kkm1 : (-1 : Int32).toInt = -1 := by decide
  have kk0 : (0 : Int32).toInt = 0 := by decide
  have kk4 : (4 : Int32).toInt = 4 := by decide
  have lk0 := hts (.fieldLink RX1 15 "AbbeyHours$DayTable" "width" "I") (List.mem_cons_of_mem _ (List.mem_append_left _ (List.mem_of_getElem? (i := 0) rfl)))
  have lk1 := hts (.fieldLink RX1 21 "AbbeyHours$DayTable" "cells" "[I") (List.mem_cons_of_mem _ (List.mem_append_left _ (List.mem_of_getElem? (i := 1) rfl)))
  refine lv_aload_n hx hb dX1_at_0 rfl (lv_at hl 0 rfl) ?_
  refine lv_iload_n hx hb dX1_at_1 rfl (lv_at hl 1 rfl) ?_
  refine lv_iload_n hx hb dX1_at_2 rfl (lv_at hl 2 rfl) ?_
  have hPc := hP.sub (ws' := [(h, .inr (1, [.int 4, .ref ac]))]) [0] rfl
  refine roV (As := [.int d, .int k]) (rest := []) S (d4_isCell  ) (cwV 2 hts gX1_at_X1_isCell rfl rfl rfl ⟨rfl, hd_X1_isCell⟩ ⟨Nat.le_of_ble_eq_true rfl, Nat.le_of_ble_eq_true rfl⟩) hK hPc (va_recv hK.1 hPc (ci := 1) (q0 := 0) rfl rfl) rfl hl.1 rfl (Nat.le_of_ble_eq_true rfl) dX1_at_3 ⟨Nat.le_of_ble_eq_true rfl, Nat.le_of_ble_eq_true rfl⟩ (fun r_1 hw_1 => ?_)
  have hw_1 : (r_1.toInt = 1 ∧ 0 ≤ d.toInt ∧ d.toInt < 1095 ∧ 0 ≤ k.toInt ∧ k.toInt < 4) ∨ (r_1.toInt = 0 ∧ (d.toInt < 0 ∨ 1095 ≤ d.toInt ∨ k.toInt < 0 ∨ 4 ≤ k.toInt)) := hw_1
  refine lv_if_eq (tgt := 41) hx hb dX1_at_6 (by decide) (fun c_2 => ?_) (fun c_2 => ?_)
  · have tc_2 := t_eq c_2
    refine lv_iconst (v := (-1)) hx hb dX1_at_41 (by decide) ?_
    exact hret (-1) _ _ (show True from trivial) rfl dX1_at_42
  · have tc_2 := t_neq c_2
    refine lv_iload_n hx hb dX1_at_9 rfl (lv_at hl 1 rfl) ?_
    refine lv_aload_n hx hb dX1_at_10 rfl (lv_at hl 0 rfl) ?_
    refine va_get (D := D) (ci := 1) (v := .int 4) (C := RX1) (T := TX1) (N := 2) hx hb hts in_d4_at_X1 hown hK.1 hP 0 rfl rfl 0 (by decide) lk0 (fun _ h9 => h9) rfl dX1_at_11 ?_
    refine lv_imul hx hb dX1_at_14 ?_
    refine lv_topi (fun x_3 ex_3 => ?_)
    first | have tx_3 := t_mulK kk4 ex_3 (by omega) (by omega) | skip
    refine lv_iload_n hx hb dX1_at_15 rfl (lv_at hl 2 rfl) ?_
    refine lv_iadd hx hb dX1_at_16 ?_
    refine lv_topi (fun x_4 ex_4 => ?_)
    first | have tx_4 := t_add ex_4 (by omega) (by omega) | skip
    refine lv_aload_n hx hb dX1_at_17 rfl (lv_at hl 0 rfl) ?_
    refine va_get (D := D) (ci := 1) (v := .ref ac) (C := RX1) (T := TX1) (N := 2) hx hb hts in_d4_at_X1 hown hK.1 hP 0 rfl rfl 1 (by decide) lk1 (fun _ h9 => h9) rfl dX1_at_18 ?_
    refine va_alen hx hb hK.1 hP 1 0 rfl rfl rfl dX1_at_21 ?_
    refine lv_topi (fun x_5 ex_5 => ?_)
    have tx_5 : x_5.toInt = L := by rw [ex_5]; exact nI_toInt (by omega)
    refine lv_icmp_ge (tgt := 41) hx hb dX1_at_22 (by decide) (fun c_6 => ?_) (fun c_6 => ?_)
    · have tc_6 := t_le c_6
      refine lv_iconst (v := (-1)) hx hb dX1_at_41 (by decide) ?_
      exact hret (-1) _ _ (show True from trivial) rfl dX1_at_42
    · have tc_6 := t_nle c_6
      refine lv_aload_n hx hb dX1_at_25 rfl (lv_at hl 0 rfl) ?_
      refine va_get (D := D) (ci := 1) (v := .ref ac) (C := RX1) (T := TX1) (N := 2) hx hb hts in_d4_at_X1 hown hK.1 hP 0 rfl rfl 1 (by decide) lk1 (fun _ h9 => h9) rfl dX1_at_26 ?_
      refine lv_iload_n hx hb dX1_at_29 rfl (lv_at hl 1 rfl) ?_
      refine lv_aload_n hx hb dX1_at_30 rfl (lv_at hl 0 rfl) ?_
      refine va_get (D := D) (ci := 1) (v := .int 4) (C := RX1) (T := TX1) (N := 2) hx hb hts in_d4_at_X1 hown hK.1 hP 0 rfl rfl 0 (by decide) lk0 (fun _ h9 => h9) rfl dX1_at_31 ?_
      refine lv_imul hx hb dX1_at_34 ?_
      refine lv_topi (fun x_7 ex_7 => ?_)
      first | have tx_7 := t_mulK kk4 ex_7 (by omega) (by omega) | skip
      refine lv_iload_n hx hb dX1_at_35 rfl (lv_at hl 2 rfl) ?_
      refine lv_iadd hx hb dX1_at_36 ?_
      refine lv_topi (fun x_8 ex_8 => ?_)
      first | have tx_8 := t_add ex_8 (by omega) (by omega) | skip
      refine va_iald hx hb hK.1 hP 1 0 rfl rfl (t_in (by omega) (by omega)) dX1_at_37 ?_
      refine lv_topi (fun y_9 ey_9 => ?_)
      refine lv_goto (tgt := 42) hx hb dX1_at_38 (by decide) ?_
      exact hret y_9 _ _ (show True from trivial) rfl dX1_at_42

theorem in_d5_isCell_X1 : ∀ w ∈ wsX10, w ∈ wsX1_isCell := tl_X1_isCell_X1
set_option maxHeartbeats 8000000 in
set_option maxRecDepth 100000 in
theorem d5_isCell {l : Launch} {D : va_G} {cI cZ cB : ClassId} {h ac : Nat} {d k : Int32}  : Met l yX1_isCell wsX1_isCell ({ frames := 0, cells := 0, slots := 0, locals := 0 }) (RO D cI cZ cB [.ref h, .int d, .int k] [(h, .inr (1, [.int 5, .ref ac]))]) (vp_Si (fun r : Int32 => (r.toInt = 1 ∧ 0 ≤ d.toInt ∧ d.toInt < 1095 ∧ 0 ≤ k.toInt ∧ k.toInt < 5) ∨ (r.toInt = 0 ∧ (d.toInt < 0 ∨ 1095 ≤ d.toInt ∨ k.toInt < 0 ∨ 5 ≤ k.toInt)))) 0 0 (fun _ => False) := by
  refine ro_ret (cc := cX1_isCell) (maxL := 3) (ty := .boolean) (own := RX1) (by decide) rfl rfl (Nat.le_of_ble_eq_true rfl) ?_
  intro p e s m args below meth c Q S hret hP hK ls hl
  obtain ⟨hx, hb, hml, hown, hts⟩ := id S
  have hl : lv_has ls 3 [(0, .ref h), (1, .int d), (2, .int k)] := hl
  have kk0 : (0 : Int32).toInt = 0 := by decide
  have kk1 : (1 : Int32).toInt = 1 := by decide
  have kk5 : (5 : Int32).toInt = 5 := by decide
  have kk1095 : (1095 : Int32).toInt = 1095 := by decide
  have lk0 := hts (.fieldLink RX1 15 "AbbeyHours$DayTable" "width" "I") (List.mem_cons_of_mem _ (List.mem_append_left _ (List.mem_of_getElem? (i := 0) rfl)))
  refine lv_iload_n hx hb dX1_isCell_0 rfl (lv_at hl 1 rfl) ?_
  refine lv_if_lt (tgt := 27) hx hb dX1_isCell_1 (by decide) (fun c_1 => ?_) (fun c_1 => ?_)
  · have tc_1 := t_lt c_1
    refine lv_iconst (v := 0) hx hb dX1_isCell_27 (by decide) ?_
    exact hret 0 _ _ (show ((0 : Int32).toInt = 1 ∧ 0 ≤ d.toInt ∧ d.toInt < 1095 ∧ 0 ≤ k.toInt ∧ k.toInt < 5) ∨ ((0 : Int32).toInt = 0 ∧ (d.toInt < 0 ∨ 1095 ≤ d.toInt ∨ k.toInt < 0 ∨ 5 ≤ k.toInt)) from by omega) rfl dX1_isCell_28
  · have tc_1 := t_nlt c_1
    refine lv_iload_n hx hb dX1_isCell_4 rfl (lv_at hl 1 rfl) ?_
    refine lv_sipush (v := 1095) hx hb dX1_isCell_5 (by decide) ?_
    refine lv_icmp_ge (tgt := 27) hx hb dX1_isCell_8 (by decide) (fun c_2 => ?_) (fun c_2 => ?_)
    · have tc_2 := t_le c_2
      refine lv_iconst (v := 0) hx hb dX1_isCell_27 (by decide) ?_
      exact hret 0 _ _ (show ((0 : Int32).toInt = 1 ∧ 0 ≤ d.toInt ∧ d.toInt < 1095 ∧ 0 ≤ k.toInt ∧ k.toInt < 5) ∨ ((0 : Int32).toInt = 0 ∧ (d.toInt < 0 ∨ 1095 ≤ d.toInt ∨ k.toInt < 0 ∨ 5 ≤ k.toInt)) from by omega) rfl dX1_isCell_28
    · have tc_2 := t_nle c_2
      refine lv_iload_n hx hb dX1_isCell_11 rfl (lv_at hl 2 rfl) ?_
      refine lv_if_lt (tgt := 27) hx hb dX1_isCell_12 (by decide) (fun c_3 => ?_) (fun c_3 => ?_)
      · have tc_3 := t_lt c_3
        refine lv_iconst (v := 0) hx hb dX1_isCell_27 (by decide) ?_
        exact hret 0 _ _ (show ((0 : Int32).toInt = 1 ∧ 0 ≤ d.toInt ∧ d.toInt < 1095 ∧ 0 ≤ k.toInt ∧ k.toInt < 5) ∨ ((0 : Int32).toInt = 0 ∧ (d.toInt < 0 ∨ 1095 ≤ d.toInt ∨ k.toInt < 0 ∨ 5 ≤ k.toInt)) from by omega) rfl dX1_isCell_28
      · have tc_3 := t_nlt c_3
        refine lv_iload_n hx hb dX1_isCell_15 rfl (lv_at hl 2 rfl) ?_
        refine lv_aload_n hx hb dX1_isCell_16 rfl (lv_at hl 0 rfl) ?_
        refine va_get (D := D) (ci := 1) (v := .int 5) (C := RX1) (T := TX1) (N := 2) hx hb hts in_d5_isCell_X1 hown hK.1 hP 0 rfl rfl 0 (by decide) lk0 (fun _ h9 => h9) rfl dX1_isCell_17 ?_
        refine lv_icmp_ge (tgt := 27) hx hb dX1_isCell_20 (by decide) (fun c_4 => ?_) (fun c_4 => ?_)
        · have tc_4 := t_le c_4
          refine lv_iconst (v := 0) hx hb dX1_isCell_27 (by decide) ?_
          exact hret 0 _ _ (show ((0 : Int32).toInt = 1 ∧ 0 ≤ d.toInt ∧ d.toInt < 1095 ∧ 0 ≤ k.toInt ∧ k.toInt < 5) ∨ ((0 : Int32).toInt = 0 ∧ (d.toInt < 0 ∨ 1095 ≤ d.toInt ∨ k.toInt < 0 ∨ 5 ≤ k.toInt)) from by omega) rfl dX1_isCell_28
        · have tc_4 := t_nle c_4
          refine lv_iconst (v := 1) hx hb dX1_isCell_23 (by decide) ?_
          refine lv_goto (tgt := 28) hx hb dX1_isCell_24 (by decide) ?_
          exact hret 1 _ _ (show ((1 : Int32).toInt = 1 ∧ 0 ≤ d.toInt ∧ d.toInt < 1095 ∧ 0 ≤ k.toInt ∧ k.toInt < 5) ∨ ((1 : Int32).toInt = 0 ∧ (d.toInt < 0 ∨ 1095 ≤ d.toInt ∨ k.toInt < 0 ∨ 5 ≤ k.toInt)) from by omega) rfl dX1_isCell_28

theorem in_d5_at_X1 : ∀ w ∈ wsX10, w ∈ wsX1_at := tl_X1_at_X1
set_option maxHeartbeats 8000000 in
set_option maxRecDepth 100000 in
theorem d5_at {l : Launch} {D : va_G} {cI cZ cB : ClassId} {h ac L : Nat} {fc : Nat → Int32} {d k : Int32} (hL : L < 65536) : Met l yX1_at wsX1_at ({ frames := 1, cells := 0, slots := 0, locals := 22 }) (RO D cI cZ cB [.ref h, .int d, .int k] [(h, .inr (1, [.int 5, .ref ac])), (ac, .inl (cI, L, .inl fc))]) (vp_Si (fun r : Int32 => True)) 0 0 (fun _ => False) := by
  refine ro_ret (cc := cX1_at) (maxL := 3) (ty := .int) (own := RX1) (by decide) rfl rfl (Nat.le_of_ble_eq_true rfl) ?_
  intro p e s m args below meth c Q S hret hP hK ls hl
  obtain ⟨hx, hb, hml, hown, hts⟩ := id S
  have hl : lv_has ls 3 [(0, .ref h), (1, .int d), (2, .int k)] := hl
  have kkm1 : (-1 : Int32).toInt = -1 := by decide
  have kk0 : (0 : Int32).toInt = 0 := by decide
  have kk5 : (5 : Int32).toInt = 5 := by decide
  have lk0 := hts (.fieldLink RX1 15 "AbbeyHours$DayTable" "width" "I") (List.mem_cons_of_mem _ (List.mem_append_left _ (List.mem_of_getElem? (i := 0) rfl)))
  have lk1 := hts (.fieldLink RX1 21 "AbbeyHours$DayTable" "cells" "[I") (List.mem_cons_of_mem _ (List.mem_append_left _ (List.mem_of_getElem? (i := 1) rfl)))
  refine lv_aload_n hx hb dX1_at_0 rfl (lv_at hl 0 rfl) ?_
  refine lv_iload_n hx hb dX1_at_1 rfl (lv_at hl 1 rfl) ?_
  refine lv_iload_n hx hb dX1_at_2 rfl (lv_at hl 2 rfl) ?_
  have hPc := hP.sub (ws' := [(h, .inr (1, [.int 5, .ref ac]))]) [0] rfl
  refine roV (As := [.int d, .int k]) (rest := []) S (d5_isCell  ) (cwV 2 hts gX1_at_X1_isCell rfl rfl rfl ⟨rfl, hd_X1_isCell⟩ ⟨Nat.le_of_ble_eq_true rfl, Nat.le_of_ble_eq_true rfl⟩) hK hPc (va_recv hK.1 hPc (ci := 1) (q0 := 0) rfl rfl) rfl hl.1 rfl (Nat.le_of_ble_eq_true rfl) dX1_at_3 ⟨Nat.le_of_ble_eq_true rfl, Nat.le_of_ble_eq_true rfl⟩ (fun r_1 hw_1 => ?_)
  have hw_1 : (r_1.toInt = 1 ∧ 0 ≤ d.toInt ∧ d.toInt < 1095 ∧ 0 ≤ k.toInt ∧ k.toInt < 5) ∨ (r_1.toInt = 0 ∧ (d.toInt < 0 ∨ 1095 ≤ d.toInt ∨ k.toInt < 0 ∨ 5 ≤ k.toInt)) := hw_1
  refine lv_if_eq (tgt := 41) hx hb dX1_at_6 (by decide) (fun c_2 => ?_) (fun c_2 => ?_)
  · have tc_2 := t_eq c_2
    refine lv_iconst (v := (-1)) hx hb dX1_at_41 (by decide) ?_
    exact hret (-1) _ _ (show True from trivial) rfl dX1_at_42
  · have tc_2 := t_neq c_2
    refine lv_iload_n hx hb dX1_at_9 rfl (lv_at hl 1 rfl) ?_
    refine lv_aload_n hx hb dX1_at_10 rfl (lv_at hl 0 rfl) ?_
    refine va_get (D := D) (ci := 1) (v := .int 5) (C := RX1) (T := TX1) (N := 2) hx hb hts in_d5_at_X1 hown hK.1 hP 0 rfl rfl 0 (by decide) lk0 (fun _ h9 => h9) rfl dX1_at_11 ?_
    refine lv_imul hx hb dX1_at_14 ?_
    refine lv_topi (fun x_3 ex_3 => ?_)
    first | have tx_3 := t_mulK kk5 ex_3 (by omega) (by omega) | skip
    refine lv_iload_n hx hb dX1_at_15 rfl (lv_at hl 2 rfl) ?_
    refine lv_iadd hx hb dX1_at_16 ?_
    refine lv_topi (fun x_4 ex_4 => ?_)
    first | have tx_4 := t_add ex_4 (by omega) (by omega) | skip
    refine lv_aload_n hx hb dX1_at_17 rfl (lv_at hl 0 rfl) ?_
    refine va_get (D := D) (ci := 1) (v := .ref ac) (C := RX1) (T := TX1) (N := 2) hx hb hts in_d5_at_X1 hown hK.1 hP 0 rfl rfl 1 (by decide) lk1 (fun _ h9 => h9) rfl dX1_at_18 ?_
    refine va_alen hx hb hK.1 hP 1 0 rfl rfl rfl dX1_at_21 ?_
    refine lv_topi (fun x_5 ex_5 => ?_)
    have tx_5 : x_5.toInt = L := by rw [ex_5]; exact nI_toInt (by omega)
    refine lv_icmp_ge (tgt := 41) hx hb dX1_at_22 (by decide) (fun c_6 => ?_) (fun c_6 => ?_)
    · have tc_6 := t_le c_6
      refine lv_iconst (v := (-1)) hx hb dX1_at_41 (by decide) ?_
      exact hret (-1) _ _ (show True from trivial) rfl dX1_at_42
    · have tc_6 := t_nle c_6
      refine lv_aload_n hx hb dX1_at_25 rfl (lv_at hl 0 rfl) ?_
      refine va_get (D := D) (ci := 1) (v := .ref ac) (C := RX1) (T := TX1) (N := 2) hx hb hts in_d5_at_X1 hown hK.1 hP 0 rfl rfl 1 (by decide) lk1 (fun _ h9 => h9) rfl dX1_at_26 ?_
      refine lv_iload_n hx hb dX1_at_29 rfl (lv_at hl 1 rfl) ?_
      refine lv_aload_n hx hb dX1_at_30 rfl (lv_at hl 0 rfl) ?_
      refine va_get (D := D) (ci := 1) (v := .int 5) (C := RX1) (T := TX1) (N := 2) hx hb hts in_d5_at_X1 hown hK.1 hP 0 rfl rfl 0 (by decide) lk0 (fun _ h9 => h9) rfl dX1_at_31 ?_
      refine lv_imul hx hb dX1_at_34 ?_
      refine lv_topi (fun x_7 ex_7 => ?_)
      first | have tx_7 := t_mulK kk5 ex_7 (by omega) (by omega) | skip
      refine lv_iload_n hx hb dX1_at_35 rfl (lv_at hl 2 rfl) ?_
      refine lv_iadd hx hb dX1_at_36 ?_
      refine lv_topi (fun x_8 ex_8 => ?_)
      first | have tx_8 := t_add ex_8 (by omega) (by omega) | skip
      refine va_iald hx hb hK.1 hP 1 0 rfl rfl (t_in (by omega) (by omega)) dX1_at_37 ?_
      refine lv_topi (fun y_9 ey_9 => ?_)
      refine lv_goto (tgt := 42) hx hb dX1_at_38 (by decide) ?_
      exact hret y_9 _ _ (show True from trivial) rfl dX1_at_42

theorem in_d5_put_X1 : ∀ w ∈ wsX10, w ∈ wsX1_put := tl_X1_put_X1
set_option maxHeartbeats 8000000 in
set_option maxRecDepth 100000 in
theorem d5_put {l : Launch} {D : va_G} {cI cZ cB : ClassId} {sz : Nat} {h ac L : Nat} {fc : Nat → Int32} {d k x : Int32} (hL : L < 65536) (hd : (d.toInt + 1) * 5 ≤ L) (hd0 : 0 ≤ d.toInt) : Met l yX1_put wsX1_put ({ frames := 1, cells := 0, slots := 0, locals := 22 }) (RW D cI cZ cB [.ref h, .int d, .int k, .int x] sz [(h, .inr (1, [.int 5, .ref ac])), (ac, .inl (cI, L, .inl fc))]) (va_Qv (fun u : (Nat → Int32) => True) (BW D [(h, .inr (1, [.int 5, .ref ac])), (ac, .inl (cI, L, .inl fc))] sz (fun u : (Nat → Int32) => [(h, .inr (1, [.int 5, .ref ac])), (ac, .inl (cI, L, .inl u))])) (va_A [(h, .inr (1, [.int 5, .ref ac])), (ac, .inl (cI, L, .inl fc))] sz)) 0 0 (va_A [(h, .inr (1, [.int 5, .ref ac])), (ac, .inl (cI, L, .inl fc))] sz) := by
  refine rw_retv (cc := cX1_put) (maxL := 4) (own := RX1) (by decide) rfl rfl (Nat.le_of_ble_eq_true rfl) ?_
  intro p e s m args below meth c Q A S hin hret hP hK hD hA hS ls hl
  obtain ⟨hx, hb, hml, hown, hts⟩ := id S
  have hl : lv_has ls 4 [(0, .ref h), (1, .int d), (2, .int k), (3, .int x)] := hl
  have kk0 : (0 : Int32).toInt = 0 := by decide
  have kk1 : (1 : Int32).toInt = 1 := by decide
  have kk5 : (5 : Int32).toInt = 5 := by decide
  have lk0 := hts (.fieldLink RX1 15 "AbbeyHours$DayTable" "width" "I") (List.mem_cons_of_mem _ (List.mem_append_left _ (List.mem_of_getElem? (i := 0) rfl)))
  have lk1 := hts (.fieldLink RX1 21 "AbbeyHours$DayTable" "cells" "[I") (List.mem_cons_of_mem _ (List.mem_append_left _ (List.mem_of_getElem? (i := 1) rfl)))
  refine lv_aload_n hx hb dX1_put_0 rfl (lv_at hl 0 rfl) ?_
  refine lv_iload_n hx hb dX1_put_1 rfl (lv_at hl 1 rfl) ?_
  refine lv_iload_n hx hb dX1_put_2 rfl (lv_at hl 2 rfl) ?_
  have hPc := hP.sub (ws' := [(h, .inr (1, [.int 5, .ref ac]))]) [0] rfl
  refine roV (As := [.int d, .int k]) (rest := []) S (d5_isCell  ) (cwV 2 hts gX1_put_X1_isCell rfl rfl rfl ⟨rfl, hd_X1_isCell⟩ ⟨Nat.le_of_ble_eq_true rfl, Nat.le_of_ble_eq_true rfl⟩) hK hPc (va_recv hK.1 hPc (ci := 1) (q0 := 0) rfl rfl) rfl hl.1 rfl (Nat.le_of_ble_eq_true rfl) dX1_put_3 ⟨Nat.le_of_ble_eq_true rfl, Nat.le_of_ble_eq_true rfl⟩ (fun r_1 hw_1 => ?_)
  have hw_1 : (r_1.toInt = 1 ∧ 0 ≤ d.toInt ∧ d.toInt < 1095 ∧ 0 ≤ k.toInt ∧ k.toInt < 5) ∨ (r_1.toInt = 0 ∧ (d.toInt < 0 ∨ 1095 ≤ d.toInt ∨ k.toInt < 0 ∨ 5 ≤ k.toInt)) := hw_1
  refine lv_if_ne (tgt := 10) hx hb dX1_put_6 (by decide) (fun c_2 => ?_) (fun c_2 => ?_)
  · have tc_2 := t_neq c_2
    refine lv_iload_n hx hb dX1_put_10 rfl (lv_at hl 1 rfl) ?_
    refine lv_iconst (v := 1) hx hb dX1_put_11 (by decide) ?_
    refine lv_iadd hx hb dX1_put_12 ?_
    refine lv_topi (fun x_3 ex_3 => ?_)
    first | have tx_3 := t_add ex_3 (by omega) (by omega) | skip
    refine lv_aload_n hx hb dX1_put_13 rfl (lv_at hl 0 rfl) ?_
    refine va_get (D := D) (ci := 1) (v := .int 5) (C := RX1) (T := TX1) (N := 2) hx hb hts in_d5_put_X1 hown hK.1 hP 0 rfl rfl 0 (by decide) lk0 (fun _ h9 => h9) rfl dX1_put_14 ?_
    refine lv_imul hx hb dX1_put_17 ?_
    refine lv_topi (fun x_4 ex_4 => ?_)
    first | have tx_4 := t_mulK kk5 ex_4 (by omega) (by omega) | skip
    refine lv_aload_n hx hb dX1_put_18 rfl (lv_at hl 0 rfl) ?_
    refine va_get (D := D) (ci := 1) (v := .ref ac) (C := RX1) (T := TX1) (N := 2) hx hb hts in_d5_put_X1 hown hK.1 hP 0 rfl rfl 1 (by decide) lk1 (fun _ h9 => h9) rfl dX1_put_19 ?_
    refine va_alen hx hb hK.1 hP 1 0 rfl rfl rfl dX1_put_22 ?_
    refine lv_topi (fun x_5 ex_5 => ?_)
    have tx_5 : x_5.toInt = L := by rw [ex_5]; exact nI_toInt (by omega)
    refine lv_icmp_le (tgt := 38) hx hb dX1_put_23 (by decide) (fun c_6 => ?_) (fun c_6 => ?_)
    · have tc_6 := t_le c_6
      refine lv_aload_n hx hb dX1_put_38 rfl (lv_at hl 0 rfl) ?_
      refine va_get (D := D) (ci := 1) (v := .ref ac) (C := RX1) (T := TX1) (N := 2) hx hb hts in_d5_put_X1 hown hK.1 hP 0 rfl rfl 1 (by decide) lk1 (fun _ h9 => h9) rfl dX1_put_39 ?_
      refine lv_iload_n hx hb dX1_put_42 rfl (lv_at hl 1 rfl) ?_
      refine lv_aload_n hx hb dX1_put_43 rfl (lv_at hl 0 rfl) ?_
      refine va_get (D := D) (ci := 1) (v := .int 5) (C := RX1) (T := TX1) (N := 2) hx hb hts in_d5_put_X1 hown hK.1 hP 0 rfl rfl 0 (by decide) lk0 (fun _ h9 => h9) rfl dX1_put_44 ?_
      refine lv_imul hx hb dX1_put_47 ?_
      refine lv_topi (fun x_7 ex_7 => ?_)
      first | have tx_7 := t_mulK kk5 ex_7 (by omega) (by omega) | skip
      refine lv_iload_n hx hb dX1_put_48 rfl (lv_at hl 2 rfl) ?_
      refine lv_iadd hx hb dX1_put_49 ?_
      refine lv_topi (fun x_8 ex_8 => ?_)
      first | have tx_8 := t_add ex_8 (by omega) (by omega) | skip
      refine lv_iload_n hx hb dX1_put_50 rfl (lv_at hl 3 rfl) ?_
      refine va_iast hx hb hK.1 hP hD hS 1 0 rfl rfl (t_in (by omega) (by omega)) dX1_put_51 (fun H locs hP hD hS => ?_)
      obtain ⟨g_9, eg_9⟩ : ∃ z : Nat → Int32, z = upd fc ((x_8 : Int32).toNatClampNeg) x := ⟨_, rfl⟩
      rw [← eg_9] at hP hD
      have hP : va_P D vwCl [(h, .inr (1, [.int 5, .ref ac])), (ac, .inl (cI, L, .inl g_9))] H := hP
      have hD := asD hP hD
      exact hret g_9 _ _ _ _ (show True from trivial) (hP.sub [0, 1] rfl) (hD.sub [0, 1] (by decide +kernel) rfl) hS dX1_put_52
    · have tc_6 := t_nle c_6
      exfalso; omega
  · have tc_2 := t_eq c_2
    exact hret fc _ _ _ _ (show True from trivial) (hP.sub [0, 1] rfl) (hD.sub [0, 1] (by decide +kernel) rfl) hS dX1_put_9

