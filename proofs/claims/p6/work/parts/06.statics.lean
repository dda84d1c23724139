set_option maxHeartbeats 8000000 in
set_option maxRecDepth 100000 in
theorem w_within {l : Launch} {D : va_G} {cI cZ cB : ClassId} {v lo hi : Int32}  : Met l yX11_within wsX11_within ({ frames := 0, cells := 0, slots := 0, locals := 0 }) (RO D cI cZ cB [.int v, .int lo, .int hi] []) (vp_Si (fun r : Int32 => (r.toInt = 1 ∧ lo.toInt ≤ v.toInt ∧ v.toInt ≤ hi.toInt) ∨ (r.toInt = 0 ∧ (v.toInt < lo.toInt ∨ hi.toInt < v.toInt)))) 0 0 (fun _ => False) := by
  refine ro_ret (cc := cX11_within) (maxL := 3) (ty := .boolean) (own := RX11) (by decide) rfl rfl (Nat.le_of_ble_eq_true rfl) ?_
  intro p e s m args below meth c Q S hret hP hK ls hl
  obtain ⟨hx, hb, hml, hown, hts⟩ := id S
  have hl : lv_has ls 3 [(0, .int v), (1, .int lo), (2, .int hi)] := hl
  have kk0 : (0 : Int32).toInt = 0 := by decide
  have kk1 : (1 : Int32).toInt = 1 := by decide
  refine lv_iload_n hx hb dX11_within_0 rfl (lv_at hl 0 rfl) ?_
  refine lv_iload_n hx hb dX11_within_1 rfl (lv_at hl 1 rfl) ?_
  refine lv_icmp_lt (tgt := 14) hx hb dX11_within_2 (by decide) (fun c_1 => ?_) (fun c_1 => ?_)
  · have tc_1 := t_lt c_1
    refine lv_iconst (v := 0) hx hb dX11_within_14 (by decide) ?_
    exact hret 0 _ _ (show ((0 : Int32).toInt = 1 ∧ lo.toInt ≤ v.toInt ∧ v.toInt ≤ hi.toInt) ∨ ((0 : Int32).toInt = 0 ∧ (v.toInt < lo.toInt ∨ hi.toInt < v.toInt)) from by omega) rfl dX11_within_15
  · have tc_1 := t_nlt c_1
    refine lv_iload_n hx hb dX11_within_5 rfl (lv_at hl 0 rfl) ?_
    refine lv_iload_n hx hb dX11_within_6 rfl (lv_at hl 2 rfl) ?_
    refine lv_icmp_gt (tgt := 14) hx hb dX11_within_7 (by decide) (fun c_2 => ?_) (fun c_2 => ?_)
    · have tc_2 := t_lt c_2
      refine lv_iconst (v := 0) hx hb dX11_within_14 (by decide) ?_
      exact hret 0 _ _ (show ((0 : Int32).toInt = 1 ∧ lo.toInt ≤ v.toInt ∧ v.toInt ≤ hi.toInt) ∨ ((0 : Int32).toInt = 0 ∧ (v.toInt < lo.toInt ∨ hi.toInt < v.toInt)) from by omega) rfl dX11_within_15
    · have tc_2 := t_nlt c_2
      refine lv_iconst (v := 1) hx hb dX11_within_10 (by decide) ?_
      refine lv_goto (tgt := 15) hx hb dX11_within_11 (by decide) ?_
      exact hret 1 _ _ (show ((1 : Int32).toInt = 1 ∧ lo.toInt ≤ v.toInt ∧ v.toInt ≤ hi.toInt) ∨ ((1 : Int32).toInt = 0 ∧ (v.toInt < lo.toInt ∨ hi.toInt < v.toInt)) from by omega) rfl dX11_within_15

set_option maxHeartbeats 8000000 in
set_option maxRecDepth 100000 in
theorem m_isIn {l : Launch} {D : va_G} {cI cZ cB : ClassId} {v lo hi : Int32}  : Met l yX12_isIn wsX12_isIn ({ frames := 0, cells := 0, slots := 0, locals := 0 }) (RO D cI cZ cB [.int v, .int lo, .int hi] []) (vp_Si (fun r : Int32 => (r.toInt = 1 ∧ lo.toInt ≤ v.toInt ∧ v.toInt ≤ hi.toInt) ∨ (r.toInt = 0 ∧ (v.toInt < lo.toInt ∨ hi.toInt < v.toInt)))) 0 0 (fun _ => False) := by
  refine ro_ret (cc := cX12_isIn) (maxL := 3) (ty := .boolean) (own := RX12) (by decide) rfl rfl (Nat.le_of_ble_eq_true rfl) ?_
  intro p e s m args below meth c Q S hret hP hK ls hl
  obtain ⟨hx, hb, hml, hown, hts⟩ := id S
  have hl : lv_has ls 3 [(0, .int v), (1, .int lo), (2, .int hi)] := hl
  have kk0 : (0 : Int32).toInt = 0 := by decide
  have kk1 : (1 : Int32).toInt = 1 := by decide
  refine lv_iload_n hx hb dX12_isIn_0 rfl (lv_at hl 0 rfl) ?_
  refine lv_iload_n hx hb dX12_isIn_1 rfl (lv_at hl 1 rfl) ?_
  refine lv_icmp_lt (tgt := 14) hx hb dX12_isIn_2 (by decide) (fun c_1 => ?_) (fun c_1 => ?_)
  · have tc_1 := t_lt c_1
    refine lv_iconst (v := 0) hx hb dX12_isIn_14 (by decide) ?_
    exact hret 0 _ _ (show ((0 : Int32).toInt = 1 ∧ lo.toInt ≤ v.toInt ∧ v.toInt ≤ hi.toInt) ∨ ((0 : Int32).toInt = 0 ∧ (v.toInt < lo.toInt ∨ hi.toInt < v.toInt)) from by omega) rfl dX12_isIn_15
  · have tc_1 := t_nlt c_1
    refine lv_iload_n hx hb dX12_isIn_5 rfl (lv_at hl 0 rfl) ?_
    refine lv_iload_n hx hb dX12_isIn_6 rfl (lv_at hl 2 rfl) ?_
    refine lv_icmp_gt (tgt := 14) hx hb dX12_isIn_7 (by decide) (fun c_2 => ?_) (fun c_2 => ?_)
    · have tc_2 := t_lt c_2
      refine lv_iconst (v := 0) hx hb dX12_isIn_14 (by decide) ?_
      exact hret 0 _ _ (show ((0 : Int32).toInt = 1 ∧ lo.toInt ≤ v.toInt ∧ v.toInt ≤ hi.toInt) ∨ ((0 : Int32).toInt = 0 ∧ (v.toInt < lo.toInt ∨ hi.toInt < v.toInt)) from by omega) rfl dX12_isIn_15
    · have tc_2 := t_nlt c_2
      refine lv_iconst (v := 1) hx hb dX12_isIn_10 (by decide) ?_
      refine lv_goto (tgt := 15) hx hb dX12_isIn_11 (by decide) ?_
      exact hret 1 _ _ (show ((1 : Int32).toInt = 1 ∧ lo.toInt ≤ v.toInt ∧ v.toInt ≤ hi.toInt) ∨ ((1 : Int32).toInt = 0 ∧ (v.toInt < lo.toInt ∨ hi.toInt < v.toInt)) from by omega) rfl dX12_isIn_15

set_option maxHeartbeats 8000000 in
set_option maxRecDepth 100000 in
theorem w_isDay {l : Launch} {D : va_G} {cI cZ cB : ClassId} {v : Int32}  : Met l yX11_isDay wsX11_isDay ({ frames := 1, cells := 0, slots := 0, locals := 22 }) (RO D cI cZ cB [.int v] []) (vp_Si (fun r : Int32 => (r.toInt = 1 ∧ 0 ≤ v.toInt ∧ v.toInt ≤ 1094) ∨ (r.toInt = 0 ∧ (v.toInt < 0 ∨ 1094 < v.toInt)))) 0 0 (fun _ => False) := by
  refine ro_ret (cc := cX11_isDay) (maxL := 1) (ty := .boolean) (own := RX11) (by decide) rfl rfl (Nat.le_of_ble_eq_true rfl) ?_
  intro p e s m args below meth c Q S hret hP hK ls hl
  obtain ⟨hx, hb, hml, hown, hts⟩ := id S
  have hl : lv_has ls 1 [(0, .int v)] := hl
  have kk0 : (0 : Int32).toInt = 0 := by decide
  have kk1094 : (1094 : Int32).toInt = 1094 := by decide
  refine lv_iload_n hx hb dX11_isDay_0 rfl (lv_at hl 0 rfl) ?_
  refine lv_iconst (v := 0) hx hb dX11_isDay_1 (by decide) ?_
  refine lv_sipush (v := 1094) hx hb dX11_isDay_2 (by decide) ?_
  have hPc := hP.sub (ws' := []) [] rfl
  refine roS (As := [.int v, .int 0, .int 1094]) (rest := []) S (w_within  ) (va_cwS 3 hts gX11_isDay_X11_within rfl rfl rfl hd_X11_within ⟨Nat.le_of_ble_eq_true rfl, Nat.le_of_ble_eq_true rfl⟩) hK hPc rfl hl.1 rfl (Nat.le_of_ble_eq_true rfl) dX11_isDay_5 ⟨Nat.le_of_ble_eq_true rfl, Nat.le_of_ble_eq_true rfl⟩ (fun r_1 hw_1 => ?_)
  have hw_1 : (r_1.toInt = 1 ∧ (0 : Int32).toInt ≤ v.toInt ∧ v.toInt ≤ (1094 : Int32).toInt) ∨ (r_1.toInt = 0 ∧ (v.toInt < (0 : Int32).toInt ∨ (1094 : Int32).toInt < v.toInt)) := hw_1
  exact hret r_1 _ _ (show (r_1.toInt = 1 ∧ 0 ≤ v.toInt ∧ v.toInt ≤ 1094) ∨ (r_1.toInt = 0 ∧ (v.toInt < 0 ∨ 1094 < v.toInt)) from by omega) (zb (by omega)) dX11_isDay_8

set_option maxHeartbeats 8000000 in
set_option maxRecDepth 100000 in
theorem w_isDayOfYear {l : Launch} {D : va_G} {cI cZ cB : ClassId} {v : Int32}  : Met l yX11_isDayOfYear wsX11_isDayOfYear ({ frames := 1, cells := 0, slots := 0, locals := 22 }) (RO D cI cZ cB [.int v] []) (vp_Si (fun r : Int32 => (r.toInt = 1 ∧ 0 ≤ v.toInt ∧ v.toInt ≤ 364) ∨ (r.toInt = 0 ∧ (v.toInt < 0 ∨ 364 < v.toInt)))) 0 0 (fun _ => False) := by
  refine ro_ret (cc := cX11_isDayOfYear) (maxL := 1) (ty := .boolean) (own := RX11) (by decide) rfl rfl (Nat.le_of_ble_eq_true rfl) ?_
  intro p e s m args below meth c Q S hret hP hK ls hl
  obtain ⟨hx, hb, hml, hown, hts⟩ := id S
  have hl : lv_has ls 1 [(0, .int v)] := hl
  have kk0 : (0 : Int32).toInt = 0 := by decide
  have kk364 : (364 : Int32).toInt = 364 := by decide
  refine lv_iload_n hx hb dX11_isDayOfYear_0 rfl (lv_at hl 0 rfl) ?_
  refine lv_iconst (v := 0) hx hb dX11_isDayOfYear_1 (by decide) ?_
  refine lv_sipush (v := 364) hx hb dX11_isDayOfYear_2 (by decide) ?_
  have hPc := hP.sub (ws' := []) [] rfl
  refine roS (As := [.int v, .int 0, .int 364]) (rest := []) S (w_within  ) (va_cwS 3 hts gX11_isDayOfYear_X11_within rfl rfl rfl hd_X11_within ⟨Nat.le_of_ble_eq_true rfl, Nat.le_of_ble_eq_true rfl⟩) hK hPc rfl hl.1 rfl (Nat.le_of_ble_eq_true rfl) dX11_isDayOfYear_5 ⟨Nat.le_of_ble_eq_true rfl, Nat.le_of_ble_eq_true rfl⟩ (fun r_1 hw_1 => ?_)
  have hw_1 : (r_1.toInt = 1 ∧ (0 : Int32).toInt ≤ v.toInt ∧ v.toInt ≤ (364 : Int32).toInt) ∨ (r_1.toInt = 0 ∧ (v.toInt < (0 : Int32).toInt ∨ (364 : Int32).toInt < v.toInt)) := hw_1
  exact hret r_1 _ _ (show (r_1.toInt = 1 ∧ 0 ≤ v.toInt ∧ v.toInt ≤ 364) ∨ (r_1.toInt = 0 ∧ (v.toInt < 0 ∨ 364 < v.toInt)) from by omega) (zb (by omega)) dX11_isDayOfYear_8

set_option maxHeartbeats 8000000 in
set_option maxRecDepth 100000 in
theorem w_isOffice {l : Launch} {D : va_G} {cI cZ cB : ClassId} {v : Int32}  : Met l yX11_isOffice wsX11_isOffice ({ frames := 1, cells := 0, slots := 0, locals := 22 }) (RO D cI cZ cB [.int v] []) (vp_Si (fun r : Int32 => (r.toInt = 1 ∧ 0 ≤ v.toInt ∧ v.toInt ≤ 7) ∨ (r.toInt = 0 ∧ (v.toInt < 0 ∨ 7 < v.toInt)))) 0 0 (fun _ => False) := by
  refine ro_ret (cc := cX11_isOffice) (maxL := 1) (ty := .boolean) (own := RX11) (by decide) rfl rfl (Nat.le_of_ble_eq_true rfl) ?_
  intro p e s m args below meth c Q S hret hP hK ls hl
  obtain ⟨hx, hb, hml, hown, hts⟩ := id S
  have hl : lv_has ls 1 [(0, .int v)] := hl
  have kk0 : (0 : Int32).toInt = 0 := by decide
  have kk7 : (7 : Int32).toInt = 7 := by decide
  refine lv_iload_n hx hb dX11_isOffice_0 rfl (lv_at hl 0 rfl) ?_
  refine lv_iconst (v := 0) hx hb dX11_isOffice_1 (by decide) ?_
  refine lv_bipush (v := 7) hx hb dX11_isOffice_2 (by decide) ?_
  have hPc := hP.sub (ws' := []) [] rfl
  refine roS (As := [.int v, .int 0, .int 7]) (rest := []) S (w_within  ) (va_cwS 3 hts gX11_isOffice_X11_within rfl rfl rfl hd_X11_within ⟨Nat.le_of_ble_eq_true rfl, Nat.le_of_ble_eq_true rfl⟩) hK hPc rfl hl.1 rfl (Nat.le_of_ble_eq_true rfl) dX11_isOffice_4 ⟨Nat.le_of_ble_eq_true rfl, Nat.le_of_ble_eq_true rfl⟩ (fun r_1 hw_1 => ?_)
  have hw_1 : (r_1.toInt = 1 ∧ (0 : Int32).toInt ≤ v.toInt ∧ v.toInt ≤ (7 : Int32).toInt) ∨ (r_1.toInt = 0 ∧ (v.toInt < (0 : Int32).toInt ∨ (7 : Int32).toInt < v.toInt)) := hw_1
  exact hret r_1 _ _ (show (r_1.toInt = 1 ∧ 0 ≤ v.toInt ∧ v.toInt ≤ 7) ∨ (r_1.toInt = 0 ∧ (v.toInt < 0 ∨ 7 < v.toInt)) from by omega) (zb (by omega)) dX11_isOffice_7

set_option maxHeartbeats 8000000 in
set_option maxRecDepth 100000 in
theorem w_isDuty {l : Launch} {D : va_G} {cI cZ cB : ClassId} {v : Int32}  : Met l yX11_isDuty wsX11_isDuty ({ frames := 1, cells := 0, slots := 0, locals := 22 }) (RO D cI cZ cB [.int v] []) (vp_Si (fun r : Int32 => (r.toInt = 1 ∧ 0 ≤ v.toInt ∧ v.toInt ≤ 3) ∨ (r.toInt = 0 ∧ (v.toInt < 0 ∨ 3 < v.toInt)))) 0 0 (fun _ => False) := by
  refine ro_ret (cc := cX11_isDuty) (maxL := 1) (ty := .boolean) (own := RX11) (by decide) rfl rfl (Nat.le_of_ble_eq_true rfl) ?_
  intro p e s m args below meth c Q S hret hP hK ls hl
  obtain ⟨hx, hb, hml, hown, hts⟩ := id S
  have hl : lv_has ls 1 [(0, .int v)] := hl
  have kk0 : (0 : Int32).toInt = 0 := by decide
  have kk3 : (3 : Int32).toInt = 3 := by decide
  refine lv_iload_n hx hb dX11_isDuty_0 rfl (lv_at hl 0 rfl) ?_
  refine lv_iconst (v := 0) hx hb dX11_isDuty_1 (by decide) ?_
  refine lv_iconst (v := 3) hx hb dX11_isDuty_2 (by decide) ?_
  have hPc := hP.sub (ws' := []) [] rfl
  refine roS (As := [.int v, .int 0, .int 3]) (rest := []) S (w_within  ) (va_cwS 3 hts gX11_isDuty_X11_within rfl rfl rfl hd_X11_within ⟨Nat.le_of_ble_eq_true rfl, Nat.le_of_ble_eq_true rfl⟩) hK hPc rfl hl.1 rfl (Nat.le_of_ble_eq_true rfl) dX11_isDuty_3 ⟨Nat.le_of_ble_eq_true rfl, Nat.le_of_ble_eq_true rfl⟩ (fun r_1 hw_1 => ?_)
  have hw_1 : (r_1.toInt = 1 ∧ (0 : Int32).toInt ≤ v.toInt ∧ v.toInt ≤ (3 : Int32).toInt) ∨ (r_1.toInt = 0 ∧ (v.toInt < (0 : Int32).toInt ∨ (3 : Int32).toInt < v.toInt)) := hw_1
  exact hret r_1 _ _ (show (r_1.toInt = 1 ∧ 0 ≤ v.toInt ∧ v.toInt ≤ 3) ∨ (r_1.toInt = 0 ∧ (v.toInt < 0 ∨ 3 < v.toInt)) from by omega) (zb (by omega)) dX11_isDuty_6

set_option maxHeartbeats 8000000 in
set_option maxRecDepth 100000 in
theorem m_isDay {l : Launch} {D : va_G} {cI cZ cB : ClassId} {v : Int32}  : Met l yX12_isDay wsX12_isDay ({ frames := 1, cells := 0, slots := 0, locals := 22 }) (RO D cI cZ cB [.int v] []) (vp_Si (fun r : Int32 => (r.toInt = 1 ∧ 0 ≤ v.toInt ∧ v.toInt ≤ 1094) ∨ (r.toInt = 0 ∧ (v.toInt < 0 ∨ 1094 < v.toInt)))) 0 0 (fun _ => False) := by
  refine ro_ret (cc := cX12_isDay) (maxL := 1) (ty := .boolean) (own := RX12) (by decide) rfl rfl (Nat.le_of_ble_eq_true rfl) ?_
  intro p e s m args below meth c Q S hret hP hK ls hl
  obtain ⟨hx, hb, hml, hown, hts⟩ := id S
  have hl : lv_has ls 1 [(0, .int v)] := hl
  have kk0 : (0 : Int32).toInt = 0 := by decide
  have kk1094 : (1094 : Int32).toInt = 1094 := by decide
  refine lv_iload_n hx hb dX12_isDay_0 rfl (lv_at hl 0 rfl) ?_
  refine lv_iconst (v := 0) hx hb dX12_isDay_1 (by decide) ?_
  refine lv_sipush (v := 1094) hx hb dX12_isDay_2 (by decide) ?_
  have hPc := hP.sub (ws' := []) [] rfl
  refine roS (As := [.int v, .int 0, .int 1094]) (rest := []) S (m_isIn  ) (va_cwS 3 hts gX12_isDay_X12_isIn rfl rfl rfl hd_X12_isIn ⟨Nat.le_of_ble_eq_true rfl, Nat.le_of_ble_eq_true rfl⟩) hK hPc rfl hl.1 rfl (Nat.le_of_ble_eq_true rfl) dX12_isDay_5 ⟨Nat.le_of_ble_eq_true rfl, Nat.le_of_ble_eq_true rfl⟩ (fun r_1 hw_1 => ?_)
  have hw_1 : (r_1.toInt = 1 ∧ (0 : Int32).toInt ≤ v.toInt ∧ v.toInt ≤ (1094 : Int32).toInt) ∨ (r_1.toInt = 0 ∧ (v.toInt < (0 : Int32).toInt ∨ (1094 : Int32).toInt < v.toInt)) := hw_1
  exact hret r_1 _ _ (show (r_1.toInt = 1 ∧ 0 ≤ v.toInt ∧ v.toInt ≤ 1094) ∨ (r_1.toInt = 0 ∧ (v.toInt < 0 ∨ 1094 < v.toInt)) from by omega) (zb (by omega)) dX12_isDay_8

set_option maxHeartbeats 8000000 in
set_option maxRecDepth 100000 in
theorem w_isSpan {l : Launch} {D : va_G} {cI cZ cB : ClassId} {fr t : Int32}  : Met l yX11_isSpan wsX11_isSpan ({ frames := 2, cells := 0, slots := 0, locals := 42 }) (RO D cI cZ cB [.int fr, .int t] []) (vp_Si (fun r : Int32 => (r.toInt = 1 ∧ 0 ≤ fr.toInt ∧ fr.toInt ≤ t.toInt ∧ t.toInt ≤ 1094) ∨ (r.toInt = 0 ∧ (fr.toInt < 0 ∨ t.toInt < fr.toInt ∨ 1094 < t.toInt)))) 0 0 (fun _ => False) := by
  refine ro_ret (cc := cX11_isSpan) (maxL := 2) (ty := .boolean) (own := RX11) (by decide) rfl rfl (Nat.le_of_ble_eq_true rfl) ?_
  intro p e s m args below meth c Q S hret hP hK ls hl
  obtain ⟨hx, hb, hml, hown, hts⟩ := id S
  have hl : lv_has ls 2 [(0, .int fr), (1, .int t)] := hl
  have kk0 : (0 : Int32).toInt = 0 := by decide
  have kk1 : (1 : Int32).toInt = 1 := by decide
  refine lv_iload_n hx hb dX11_isSpan_0 rfl (lv_at hl 0 rfl) ?_
  have hPc := hP.sub (ws' := []) [] rfl
  refine roS (As := [.int fr]) (rest := []) S (w_isDay  ) (va_cwS 1 hts gX11_isSpan_X11_isDay rfl rfl rfl hd_X11_isDay ⟨Nat.le_of_ble_eq_true rfl, Nat.le_of_ble_eq_true rfl⟩) hK hPc rfl hl.1 rfl (Nat.le_of_ble_eq_true rfl) dX11_isSpan_1 ⟨Nat.le_of_ble_eq_true rfl, Nat.le_of_ble_eq_true rfl⟩ (fun r_1 hw_1 => ?_)
  have hw_1 : (r_1.toInt = 1 ∧ 0 ≤ fr.toInt ∧ fr.toInt ≤ 1094) ∨ (r_1.toInt = 0 ∧ (fr.toInt < 0 ∨ 1094 < fr.toInt)) := hw_1
  refine lv_if_eq (tgt := 23) hx hb dX11_isSpan_4 (by decide) (fun c_2 => ?_) (fun c_2 => ?_)
  · have tc_2 := t_eq c_2
    refine lv_iconst (v := 0) hx hb dX11_isSpan_23 (by decide) ?_
    exact hret 0 _ _ (show ((0 : Int32).toInt = 1 ∧ 0 ≤ fr.toInt ∧ fr.toInt ≤ t.toInt ∧ t.toInt ≤ 1094) ∨ ((0 : Int32).toInt = 0 ∧ (fr.toInt < 0 ∨ t.toInt < fr.toInt ∨ 1094 < t.toInt)) from by omega) rfl dX11_isSpan_24
  · have tc_2 := t_neq c_2
    refine lv_iload_n hx hb dX11_isSpan_7 rfl (lv_at hl 1 rfl) ?_
    have hPc := hP.sub (ws' := []) [] rfl
    refine roS (As := [.int t]) (rest := []) S (w_isDay  ) (va_cwS 1 hts gX11_isSpan_X11_isDay rfl rfl rfl hd_X11_isDay ⟨Nat.le_of_ble_eq_true rfl, Nat.le_of_ble_eq_true rfl⟩) hK hPc rfl hl.1 rfl (Nat.le_of_ble_eq_true rfl) dX11_isSpan_8 ⟨Nat.le_of_ble_eq_true rfl, Nat.le_of_ble_eq_true rfl⟩ (fun r_3 hw_3 => ?_)
    have hw_3 : (r_3.toInt = 1 ∧ 0 ≤ t.toInt ∧ t.toInt ≤ 1094) ∨ (r_3.toInt = 0 ∧ (t.toInt < 0 ∨ 1094 < t.toInt)) := hw_3
    refine lv_if_eq (tgt := 23) hx hb dX11_isSpan_11 (by decide) (fun c_4 => ?_) (fun c_4 => ?_)
    · have tc_4 := t_eq c_4
      refine lv_iconst (v := 0) hx hb dX11_isSpan_23 (by decide) ?_
      exact hret 0 _ _ (show ((0 : Int32).toInt = 1 ∧ 0 ≤ fr.toInt ∧ fr.toInt ≤ t.toInt ∧ t.toInt ≤ 1094) ∨ ((0 : Int32).toInt = 0 ∧ (fr.toInt < 0 ∨ t.toInt < fr.toInt ∨ 1094 < t.toInt)) from by omega) rfl dX11_isSpan_24
    · have tc_4 := t_neq c_4
      refine lv_iload_n hx hb dX11_isSpan_14 rfl (lv_at hl 0 rfl) ?_
      refine lv_iload_n hx hb dX11_isSpan_15 rfl (lv_at hl 1 rfl) ?_
      refine lv_icmp_gt (tgt := 23) hx hb dX11_isSpan_16 (by decide) (fun c_5 => ?_) (fun c_5 => ?_)
      · have tc_5 := t_lt c_5
        refine lv_iconst (v := 0) hx hb dX11_isSpan_23 (by decide) ?_
        exact hret 0 _ _ (show ((0 : Int32).toInt = 1 ∧ 0 ≤ fr.toInt ∧ fr.toInt ≤ t.toInt ∧ t.toInt ≤ 1094) ∨ ((0 : Int32).toInt = 0 ∧ (fr.toInt < 0 ∨ t.toInt < fr.toInt ∨ 1094 < t.toInt)) from by omega) rfl dX11_isSpan_24
      · have tc_5 := t_nlt c_5
        refine lv_iconst (v := 1) hx hb dX11_isSpan_19 (by decide) ?_
        refine lv_goto (tgt := 24) hx hb dX11_isSpan_20 (by decide) ?_
        exact hret 1 _ _ (show ((1 : Int32).toInt = 1 ∧ 0 ≤ fr.toInt ∧ fr.toInt ≤ t.toInt ∧ t.toInt ≤ 1094) ∨ ((1 : Int32).toInt = 0 ∧ (fr.toInt < 0 ∨ t.toInt < fr.toInt ∨ 1094 < t.toInt)) from by omega) rfl dX11_isSpan_24

set_option maxHeartbeats 8000000 in
set_option maxRecDepth 100000 in
theorem s_minutes {l : Launch} {D : va_G} {cI cZ cB : ClassId} {y : Int32}  : Met l yX8_minutes wsX8_minutes ({ frames := 0, cells := 0, slots := 0, locals := 0 }) (RO D cI cZ cB [.int y] []) (vp_Si (fun r : Int32 => r = sunM y)) 0 0 (fun _ => False) := by
  refine ro_ret (cc := cX8_minutes) (maxL := 2) (ty := .int) (own := RX8) (by decide) rfl rfl (Nat.le_of_ble_eq_true rfl) ?_
  intro p e s m args below meth c Q S hret hP hK ls hl
  obtain ⟨hx, hb, hml, hown, hts⟩ := id S
  have hl : lv_has ls 2 [(0, .int y)] := hl
  have kk0 : (0 : Int32).toInt = 0 := by decide
  have kk182 : (182 : Int32).toInt = 182 := by decide
  have kk183 : (183 : Int32).toInt = 183 := by decide
  have kk355 : (355 : Int32).toInt = 355 := by decide
  have kk365 : (365 : Int32).toInt = 365 := by decide
  have kk480 : (480 : Int32).toInt = 480 := by decide
  have kk960 : (960 : Int32).toInt = 960 := by decide
  refine lv_iload_n hx hb dX8_minutes_0 rfl (lv_at hl 0 rfl) ?_
  refine lv_sipush (v := 355) hx hb dX8_minutes_1 (by decide) ?_
  refine lv_icmp_lt (tgt := 15) hx hb dX8_minutes_4 (by decide) (fun ca => ?_) (fun ca => ?_)
  · have tca := t_lt ca
    refine lv_iload_n hx hb dX8_minutes_15 rfl (lv_at hl 0 rfl) ?_
    refine lv_sipush (v := 365) hx hb dX8_minutes_16 (by decide) ?_
    refine lv_iadd hx hb dX8_minutes_19 ?_
    refine lv_topi (fun x_2 ex_2 => ?_)
    refine lv_sipush (v := 355) hx hb dX8_minutes_20 (by decide) ?_
    refine lv_isub hx hb dX8_minutes_23 ?_
    refine lv_topi (fun x_3 ex_3 => ?_)
    refine lv_istore_n (lv' := [(1, .int x_3), (0, .int y)]) hx hb dX8_minutes_24 rfl hl (by decide) rfl (fun ls hl => ?_)
    refine lv_iload_n hx hb dX8_minutes_25 rfl (lv_at hl 0 rfl) ?_
    refine lv_sipush (v := 182) hx hb dX8_minutes_26 (by decide) ?_
    refine lv_icmp_gt (tgt := 46) hx hb dX8_minutes_29 (by decide) (fun cb => ?_) (fun cb => ?_)
    · have tcb := t_lt cb
      refine lv_sipush (v := 960) hx hb dX8_minutes_46 (by decide) ?_
      refine lv_sipush (v := 480) hx hb dX8_minutes_49 (by decide) ?_
      refine lv_iload_n hx hb dX8_minutes_52 rfl (lv_at hl 0 rfl) ?_
      refine lv_sipush (v := 182) hx hb dX8_minutes_53 (by decide) ?_
      refine lv_isub hx hb dX8_minutes_56 ?_
      refine lv_topi (fun x_5 ex_5 => ?_)
      refine lv_imul hx hb dX8_minutes_57 ?_
      refine lv_topi (fun x_6 ex_6 => ?_)
      refine lv_sipush (v := 183) hx hb dX8_minutes_58 (by decide) ?_
      refine lv_idiv hx hb dX8_minutes_61 (by decide) ?_
      refine lv_topi (fun x_7 ex_7 => ?_)
      refine lv_isub hx hb dX8_minutes_62 ?_
      refine lv_topi (fun x_8 ex_8 => ?_)
      exact hret x_8 _ _ (show x_8 = sunM y from by subst_vars; unfold sunM sunN; simp only [ca, cb, if_true, if_false]) rfl dX8_minutes_63
    · have tcb := t_nlt cb
      refine lv_sipush (v := 480) hx hb dX8_minutes_32 (by decide) ?_
      refine lv_sipush (v := 480) hx hb dX8_minutes_35 (by decide) ?_
      refine lv_iload_n hx hb dX8_minutes_38 rfl (lv_at hl 0 rfl) ?_
      refine lv_imul hx hb dX8_minutes_39 ?_
      refine lv_topi (fun x_9 ex_9 => ?_)
      refine lv_sipush (v := 182) hx hb dX8_minutes_40 (by decide) ?_
      refine lv_idiv hx hb dX8_minutes_43 (by decide) ?_
      refine lv_topi (fun x_10 ex_10 => ?_)
      refine lv_iadd hx hb dX8_minutes_44 ?_
      refine lv_topi (fun x_11 ex_11 => ?_)
      exact hret x_11 _ _ (show x_11 = sunM y from by subst_vars; unfold sunM sunN; simp only [ca, cb, if_true, if_false]) rfl dX8_minutes_45
  · have tca := t_nlt ca
    refine lv_iload_n hx hb dX8_minutes_7 rfl (lv_at hl 0 rfl) ?_
    refine lv_sipush (v := 355) hx hb dX8_minutes_8 (by decide) ?_
    refine lv_isub hx hb dX8_minutes_11 ?_
    refine lv_topi (fun x_12 ex_12 => ?_)
    refine lv_goto (tgt := 24) hx hb dX8_minutes_12 (by decide) ?_
    refine lv_istore_n (lv' := [(1, .int x_12), (0, .int y)]) hx hb dX8_minutes_24 rfl hl (by decide) rfl (fun ls hl => ?_)
    refine lv_iload_n hx hb dX8_minutes_25 rfl (lv_at hl 0 rfl) ?_
    refine lv_sipush (v := 182) hx hb dX8_minutes_26 (by decide) ?_
    refine lv_icmp_gt (tgt := 46) hx hb dX8_minutes_29 (by decide) (fun cb => ?_) (fun cb => ?_)
    · have tcb := t_lt cb
      refine lv_sipush (v := 960) hx hb dX8_minutes_46 (by decide) ?_
      refine lv_sipush (v := 480) hx hb dX8_minutes_49 (by decide) ?_
      refine lv_iload_n hx hb dX8_minutes_52 rfl (lv_at hl 0 rfl) ?_
      refine lv_sipush (v := 182) hx hb dX8_minutes_53 (by decide) ?_
      refine lv_isub hx hb dX8_minutes_56 ?_
      refine lv_topi (fun x_14 ex_14 => ?_)
      refine lv_imul hx hb dX8_minutes_57 ?_
      refine lv_topi (fun x_15 ex_15 => ?_)
      refine lv_sipush (v := 183) hx hb dX8_minutes_58 (by decide) ?_
      refine lv_idiv hx hb dX8_minutes_61 (by decide) ?_
      refine lv_topi (fun x_16 ex_16 => ?_)
      refine lv_isub hx hb dX8_minutes_62 ?_
      refine lv_topi (fun x_17 ex_17 => ?_)
      exact hret x_17 _ _ (show x_17 = sunM y from by subst_vars; unfold sunM sunN; simp only [ca, cb, if_true, if_false]) rfl dX8_minutes_63
    · have tcb := t_nlt cb
      refine lv_sipush (v := 480) hx hb dX8_minutes_32 (by decide) ?_
      refine lv_sipush (v := 480) hx hb dX8_minutes_35 (by decide) ?_
      refine lv_iload_n hx hb dX8_minutes_38 rfl (lv_at hl 0 rfl) ?_
      refine lv_imul hx hb dX8_minutes_39 ?_
      refine lv_topi (fun x_18 ex_18 => ?_)
      refine lv_sipush (v := 182) hx hb dX8_minutes_40 (by decide) ?_
      refine lv_idiv hx hb dX8_minutes_43 (by decide) ?_
      refine lv_topi (fun x_19 ex_19 => ?_)
      refine lv_iadd hx hb dX8_minutes_44 ?_
      refine lv_topi (fun x_20 ex_20 => ?_)
      exact hret x_20 _ _ (show x_20 = sunM y from by subst_vars; unfold sunM sunN; simp only [ca, cb, if_true, if_false]) rfl dX8_minutes_45

set_option maxHeartbeats 8000000 in
set_option maxRecDepth 100000 in
theorem s_rise {l : Launch} {D : va_G} {cI cZ cB : ClassId} {y : Int32}  : Met l yX8_rise wsX8_rise ({ frames := 1, cells := 0, slots := 0, locals := 21 }) (RO D cI cZ cB [.int y] []) (vp_Si (fun r : Int32 => r = sunR y)) 0 0 (fun _ => False) := by
  refine ro_ret (cc := cX8_rise) (maxL := 1) (ty := .int) (own := RX8) (by decide) rfl rfl (Nat.le_of_ble_eq_true rfl) ?_
  intro p e s m args below meth c Q S hret hP hK ls hl
  obtain ⟨hx, hb, hml, hown, hts⟩ := id S
  have hl : lv_has ls 1 [(0, .int y)] := hl
  have kk0 : (0 : Int32).toInt = 0 := by decide
  have kk2 : (2 : Int32).toInt = 2 := by decide
  have kk720 : (720 : Int32).toInt = 720 := by decide
  refine lv_sipush (v := 720) hx hb dX8_rise_0 (by decide) ?_
  refine lv_iload_n hx hb dX8_rise_3 rfl (lv_at hl 0 rfl) ?_
  have hPc := hP.sub (ws' := []) [] rfl
  refine roS (As := [.int y]) (rest := [.int 720]) S (s_minutes  ) (va_cwS 1 hts gX8_rise_X8_minutes rfl rfl rfl hd_X8_minutes ⟨Nat.le_of_ble_eq_true rfl, Nat.le_of_ble_eq_true rfl⟩) hK hPc rfl hl.1 rfl (Nat.le_of_ble_eq_true rfl) dX8_rise_4 ⟨Nat.le_of_ble_eq_true rfl, Nat.le_of_ble_eq_true rfl⟩ (fun r_1 hw_1 => ?_)
  have hw_1 : r_1 = sunM y := hw_1
  refine lv_iconst (v := 2) hx hb dX8_rise_7 (by decide) ?_
  refine lv_idiv hx hb dX8_rise_8 (by decide) ?_
  refine lv_topi (fun x_2 ex_2 => ?_)
  refine lv_isub hx hb dX8_rise_9 ?_
  refine lv_topi (fun x_3 ex_3 => ?_)
  exact hret x_3 _ _ (show x_3 = sunR y from by subst_vars; rfl) rfl dX8_rise_10

set_option maxHeartbeats 8000000 in
set_option maxRecDepth 100000 in
theorem s_setting {l : Launch} {D : va_G} {cI cZ cB : ClassId} {y : Int32}  : Met l yX8_setting wsX8_setting ({ frames := 2, cells := 0, slots := 0, locals := 41 }) (RO D cI cZ cB [.int y] []) (vp_Si (fun r : Int32 => r = sunS y)) 0 0 (fun _ => False) := by
  refine ro_ret (cc := cX8_setting) (maxL := 1) (ty := .int) (own := RX8) (by decide) rfl rfl (Nat.le_of_ble_eq_true rfl) ?_
  intro p e s m args below meth c Q S hret hP hK ls hl
  obtain ⟨hx, hb, hml, hown, hts⟩ := id S
  have hl : lv_has ls 1 [(0, .int y)] := hl
  have kk0 : (0 : Int32).toInt = 0 := by decide
  refine lv_iload_n hx hb dX8_setting_0 rfl (lv_at hl 0 rfl) ?_
  have hPc := hP.sub (ws' := []) [] rfl
  refine roS (As := [.int y]) (rest := []) S (s_rise  ) (va_cwS 1 hts gX8_setting_X8_rise rfl rfl rfl hd_X8_rise ⟨Nat.le_of_ble_eq_true rfl, Nat.le_of_ble_eq_true rfl⟩) hK hPc rfl hl.1 rfl (Nat.le_of_ble_eq_true rfl) dX8_setting_1 ⟨Nat.le_of_ble_eq_true rfl, Nat.le_of_ble_eq_true rfl⟩ (fun r_1 hw_1 => ?_)
  have hw_1 : r_1 = sunR y := hw_1
  refine lv_iload_n hx hb dX8_setting_4 rfl (lv_at hl 0 rfl) ?_
  have hPc := hP.sub (ws' := []) [] rfl
  refine roS (As := [.int y]) (rest := [.int r_1]) S (s_minutes  ) (va_cwS 1 hts gX8_setting_X8_minutes rfl rfl rfl hd_X8_minutes ⟨Nat.le_of_ble_eq_true rfl, Nat.le_of_ble_eq_true rfl⟩) hK hPc rfl hl.1 rfl (Nat.le_of_ble_eq_true rfl) dX8_setting_5 ⟨Nat.le_of_ble_eq_true rfl, Nat.le_of_ble_eq_true rfl⟩ (fun r_2 hw_2 => ?_)
  have hw_2 : r_2 = sunM y := hw_2
  refine lv_iadd hx hb dX8_setting_8 ?_
  refine lv_topi (fun x_3 ex_3 => ?_)
  exact hret x_3 _ _ (show x_3 = sunS y from by subst_vars; rfl) rfl dX8_setting_9

set_option maxHeartbeats 8000000 in
set_option maxRecDepth 100000 in
theorem s_bell {l : Launch} {D : va_G} {cI cZ cB : ClassId} {y k : Int32}  : Met l yX8_bell wsX8_bell ({ frames := 2, cells := 0, slots := 0, locals := 41 }) (RO D cI cZ cB [.int y, .int k] []) (vp_Si (fun r : Int32 => r = sunB y k)) 0 0 (fun _ => False) := by
  refine ro_ret (cc := cX8_bell) (maxL := 5) (ty := .int) (own := RX8) (by decide) rfl rfl (Nat.le_of_ble_eq_true rfl) ?_
  intro p e s m args below meth c Q S hret hP hK ls hl
  obtain ⟨hx, hb, hml, hown, hts⟩ := id S
  have hl : lv_has ls 5 [(0, .int y), (1, .int k)] := hl
  have kk0 : (0 : Int32).toInt = 0 := by decide
  have kk3 : (3 : Int32).toInt = 3 := by decide
  have kk6 : (6 : Int32).toInt = 6 := by decide
  have kk9 : (9 : Int32).toInt = 9 := by decide
  have kk11 : (11 : Int32).toInt = 11 := by decide
  have kk12 : (12 : Int32).toInt = 12 := by decide
  have kk60 : (60 : Int32).toInt = 60 := by decide
  have kk1440 : (1440 : Int32).toInt = 1440 := by decide
  refine lv_iload_n hx hb dX8_bell_0 rfl (lv_at hl 0 rfl) ?_
  have hPc := hP.sub (ws' := []) [] rfl
  refine roS (As := [.int y]) (rest := []) S (s_minutes  ) (va_cwS 1 hts gX8_bell_X8_minutes rfl rfl rfl hd_X8_minutes ⟨Nat.le_of_ble_eq_true rfl, Nat.le_of_ble_eq_true rfl⟩) hK hPc rfl hl.1 rfl (Nat.le_of_ble_eq_true rfl) dX8_bell_1 ⟨Nat.le_of_ble_eq_true rfl, Nat.le_of_ble_eq_true rfl⟩ (fun r_1 hw_1 => ?_)
  have hw_1 : r_1 = sunM y := hw_1
  refine lv_istore_n (lv' := [(2, .int r_1), (0, .int y), (1, .int k)]) hx hb dX8_bell_4 rfl hl (by decide) rfl (fun ls hl => ?_)
  refine lv_iload_n hx hb dX8_bell_5 rfl (lv_at hl 1 rfl) ?_
  have hPc := hP.sub (ws' := []) [] rfl
  refine roS (As := [.int y]) (rest := []) S (s_rise  ) (va_cwS 1 hts gX8_bell_X8_rise rfl rfl rfl hd_X8_rise ⟨Nat.le_of_ble_eq_true rfl, Nat.le_of_ble_eq_true rfl⟩) hK hPc rfl hl.1 rfl (Nat.le_of_ble_eq_true rfl) dX8_bell_6 ⟨Nat.le_of_ble_eq_true rfl, Nat.le_of_ble_eq_true rfl⟩ (fun r_2 hw_2 => ?_)
  have hw_2 : r_2 = sunR y := hw_2
  refine lv_istore_n (lv' := [(3, .int r_2), (2, .int r_1), (0, .int y), (1, .int k)]) hx hb dX8_bell_9 rfl hl (by decide) rfl (fun ls hl => ?_)
  refine lv_iload_n hx hb dX8_bell_10 rfl (lv_at hl 0 rfl) ?_
  refine lv_iload_n hx hb dX8_bell_11 rfl (lv_at hl 1 rfl) ?_
  refine lv_iadd hx hb dX8_bell_12 ?_
  refine lv_topi (fun x_3 ex_3 => ?_)
  refine lv_istore (lv' := [(4, .int x_3), (3, .int r_2), (2, .int r_1), (0, .int y), (1, .int k)]) hx hb dX8_bell_13 hl (by decide) rfl (fun ls hl => ?_)
  refine lv_iload_n hx hb dX8_bell_15 rfl (lv_at hl 4 rfl) ?_
  have kqh_4 : (0 : Int32).toInt = 0 := by decide
  by_cases h_4 : k = 0
  · have th_4 := t_eq h_4
    refine lv_tableIn (off := 44) (tgt := 60) hx hb dX8_bell_16 (by rw [h_4]; decide) (by rw [h_4]; decide) (by rw [h_4]; rfl) (by decide) ?_
    refine lv_iload_n hx hb dX8_bell_60 rfl (lv_at hl 1 rfl) ?_
    refine lv_iconst (v := 3) hx hb dX8_bell_61 (by decide) ?_
    refine lv_idiv hx hb dX8_bell_62 (by decide) ?_
    refine lv_topi (fun x_5 ex_5 => ?_)
    exact hret x_5 _ _ (show x_5 = sunB y k from by subst_vars; first | rfl | (unfold sunB; (repeat' split) <;> first | rfl | contradiction)) rfl dX8_bell_63
  have th_4 := t_neq h_4
  have kqh_6 : (1 : Int32).toInt = 1 := by decide
  by_cases h_6 : k = 1
  · have th_6 := t_eq h_6
    refine lv_tableIn (off := 48) (tgt := 64) hx hb dX8_bell_16 (by rw [h_6]; decide) (by rw [h_6]; decide) (by rw [h_6]; rfl) (by decide) ?_
    refine lv_iload_n hx hb dX8_bell_64 rfl (lv_at hl 1 rfl) ?_
    refine lv_bipush (v := 60) hx hb dX8_bell_65 (by decide) ?_
    refine lv_isub hx hb dX8_bell_67 ?_
    refine lv_topi (fun x_7 ex_7 => ?_)
    exact hret x_7 _ _ (show x_7 = sunB y k from by subst_vars; first | rfl | (unfold sunB; (repeat' split) <;> first | rfl | contradiction)) rfl dX8_bell_68
  have th_6 := t_neq h_6
  have kqh_8 : (2 : Int32).toInt = 2 := by decide
  by_cases h_8 : k = 2
  · have th_8 := t_eq h_8
    refine lv_tableIn (off := 53) (tgt := 69) hx hb dX8_bell_16 (by rw [h_8]; decide) (by rw [h_8]; decide) (by rw [h_8]; rfl) (by decide) ?_
    refine lv_iload_n hx hb dX8_bell_69 rfl (lv_at hl 1 rfl) ?_
    exact hret r_2 _ _ (show r_2 = sunB y k from by subst_vars; first | rfl | (unfold sunB; (repeat' split) <;> first | rfl | contradiction)) rfl dX8_bell_70
  have th_8 := t_neq h_8
  have kqh_9 : (3 : Int32).toInt = 3 := by decide
  by_cases h_9 : k = 3
  · have th_9 := t_eq h_9
    refine lv_tableIn (off := 55) (tgt := 71) hx hb dX8_bell_16 (by rw [h_9]; decide) (by rw [h_9]; decide) (by rw [h_9]; rfl) (by decide) ?_
    refine lv_iload_n hx hb dX8_bell_71 rfl (lv_at hl 1 rfl) ?_
    refine lv_iload_n hx hb dX8_bell_72 rfl (lv_at hl 2 rfl) ?_
    refine lv_iconst (v := 3) hx hb dX8_bell_73 (by decide) ?_
    refine lv_imul hx hb dX8_bell_74 ?_
    refine lv_topi (fun x_10 ex_10 => ?_)
    refine lv_bipush (v := 12) hx hb dX8_bell_75 (by decide) ?_
    refine lv_idiv hx hb dX8_bell_77 (by decide) ?_
    refine lv_topi (fun x_11 ex_11 => ?_)
    refine lv_iadd hx hb dX8_bell_78 ?_
    refine lv_topi (fun x_12 ex_12 => ?_)
    exact hret x_12 _ _ (show x_12 = sunB y k from by subst_vars; first | rfl | (unfold sunB; (repeat' split) <;> first | rfl | contradiction)) rfl dX8_bell_79
  have th_9 := t_neq h_9
  have kqh_13 : (4 : Int32).toInt = 4 := by decide
  by_cases h_13 : k = 4
  · have th_13 := t_eq h_13
    refine lv_tableIn (off := 64) (tgt := 80) hx hb dX8_bell_16 (by rw [h_13]; decide) (by rw [h_13]; decide) (by rw [h_13]; rfl) (by decide) ?_
    refine lv_iload_n hx hb dX8_bell_80 rfl (lv_at hl 1 rfl) ?_
    refine lv_iload_n hx hb dX8_bell_81 rfl (lv_at hl 2 rfl) ?_
    refine lv_bipush (v := 6) hx hb dX8_bell_82 (by decide) ?_
    refine lv_imul hx hb dX8_bell_84 ?_
    refine lv_topi (fun x_14 ex_14 => ?_)
    refine lv_bipush (v := 12) hx hb dX8_bell_85 (by decide) ?_
    refine lv_idiv hx hb dX8_bell_87 (by decide) ?_
    refine lv_topi (fun x_15 ex_15 => ?_)
    refine lv_iadd hx hb dX8_bell_88 ?_
    refine lv_topi (fun x_16 ex_16 => ?_)
    exact hret x_16 _ _ (show x_16 = sunB y k from by subst_vars; first | rfl | (unfold sunB; (repeat' split) <;> first | rfl | contradiction)) rfl dX8_bell_89
  have th_13 := t_neq h_13
  have kqh_17 : (5 : Int32).toInt = 5 := by decide
  by_cases h_17 : k = 5
  · have th_17 := t_eq h_17
    refine lv_tableIn (off := 74) (tgt := 90) hx hb dX8_bell_16 (by rw [h_17]; decide) (by rw [h_17]; decide) (by rw [h_17]; rfl) (by decide) ?_
    refine lv_iload_n hx hb dX8_bell_90 rfl (lv_at hl 1 rfl) ?_
    refine lv_iload_n hx hb dX8_bell_91 rfl (lv_at hl 2 rfl) ?_
    refine lv_bipush (v := 9) hx hb dX8_bell_92 (by decide) ?_
    refine lv_imul hx hb dX8_bell_94 ?_
    refine lv_topi (fun x_18 ex_18 => ?_)
    refine lv_bipush (v := 12) hx hb dX8_bell_95 (by decide) ?_
    refine lv_idiv hx hb dX8_bell_97 (by decide) ?_
    refine lv_topi (fun x_19 ex_19 => ?_)
    refine lv_iadd hx hb dX8_bell_98 ?_
    refine lv_topi (fun x_20 ex_20 => ?_)
    exact hret x_20 _ _ (show x_20 = sunB y k from by subst_vars; first | rfl | (unfold sunB; (repeat' split) <;> first | rfl | contradiction)) rfl dX8_bell_99
  have th_17 := t_neq h_17
  have kqh_21 : (6 : Int32).toInt = 6 := by decide
  by_cases h_21 : k = 6
  · have th_21 := t_eq h_21
    refine lv_tableIn (off := 84) (tgt := 100) hx hb dX8_bell_16 (by rw [h_21]; decide) (by rw [h_21]; decide) (by rw [h_21]; rfl) (by decide) ?_
    refine lv_iload_n hx hb dX8_bell_100 rfl (lv_at hl 1 rfl) ?_
    refine lv_iload_n hx hb dX8_bell_101 rfl (lv_at hl 2 rfl) ?_
    refine lv_bipush (v := 11) hx hb dX8_bell_102 (by decide) ?_
    refine lv_imul hx hb dX8_bell_104 ?_
    refine lv_topi (fun x_22 ex_22 => ?_)
    refine lv_bipush (v := 12) hx hb dX8_bell_105 (by decide) ?_
    refine lv_idiv hx hb dX8_bell_107 (by decide) ?_
    refine lv_topi (fun x_23 ex_23 => ?_)
    refine lv_iadd hx hb dX8_bell_108 ?_
    refine lv_topi (fun x_24 ex_24 => ?_)
    exact hret x_24 _ _ (show x_24 = sunB y k from by subst_vars; first | rfl | (unfold sunB; (repeat' split) <;> first | rfl | contradiction)) rfl dX8_bell_109
  have th_21 := t_neq h_21
  refine lv_tableOut (tgt := 110) hx hb dX8_bell_16 (by omega) (by decide) ?_
  refine lv_iload hx hb dX8_bell_110 (lv_at hl 0 rfl) ?_
  refine lv_sipush (v := 1440) hx hb dX8_bell_112 (by decide) ?_
  refine lv_iload hx hb dX8_bell_115 (lv_at hl 0 rfl) ?_
  refine lv_isub hx hb dX8_bell_117 ?_
  refine lv_topi (fun x_25 ex_25 => ?_)
  refine lv_iconst (v := 3) hx hb dX8_bell_118 (by decide) ?_
  refine lv_idiv hx hb dX8_bell_119 (by decide) ?_
  refine lv_topi (fun x_26 ex_26 => ?_)
  refine lv_iadd hx hb dX8_bell_120 ?_
  refine lv_topi (fun x_27 ex_27 => ?_)
  exact hret x_27 _ _ (show x_27 = sunB y k from by subst_vars; first | rfl | (unfold sunB; (repeat' split) <;> first | rfl | contradiction)) rfl dX8_bell_121

set_option maxHeartbeats 8000000 in
set_option maxRecDepth 100000 in
theorem m_lightOf {l : Launch} {D : va_G} {cI cZ cB : ClassId} {y : Int32}  : Met l yX12_lightOf wsX12_lightOf ({ frames := 0, cells := 0, slots := 0, locals := 0 }) (RO D cI cZ cB [.int y] []) (vp_Si (fun r : Int32 => r = sunM y)) 0 0 (fun _ => False) := by
  refine ro_ret (cc := cX12_lightOf) (maxL := 2) (ty := .int) (own := RX12) (by decide) rfl rfl (Nat.le_of_ble_eq_true rfl) ?_
  intro p e s m args below meth c Q S hret hP hK ls hl
  obtain ⟨hx, hb, hml, hown, hts⟩ := id S
  have hl : lv_has ls 2 [(0, .int y)] := hl
  have kk0 : (0 : Int32).toInt = 0 := by decide
  have kk10 : (10 : Int32).toInt = 10 := by decide
  have kk182 : (182 : Int32).toInt = 182 := by decide
  have kk183 : (183 : Int32).toInt = 183 := by decide
  have kk355 : (355 : Int32).toInt = 355 := by decide
  have kk480 : (480 : Int32).toInt = 480 := by decide
  have kk960 : (960 : Int32).toInt = 960 := by decide
  refine lv_iload_n hx hb dX12_lightOf_0 rfl (lv_at hl 0 rfl) ?_
  refine lv_sipush (v := 355) hx hb dX12_lightOf_1 (by decide) ?_
  refine lv_icmp_lt (tgt := 15) hx hb dX12_lightOf_4 (by decide) (fun ca => ?_) (fun ca => ?_)
  · have tca := t_lt ca
    refine lv_iload_n hx hb dX12_lightOf_15 rfl (lv_at hl 0 rfl) ?_
    refine lv_bipush (v := 10) hx hb dX12_lightOf_16 (by decide) ?_
    refine lv_iadd hx hb dX12_lightOf_18 ?_
    refine lv_topi (fun x_2 ex_2 => ?_)
    refine lv_istore_n (lv' := [(1, .int x_2), (0, .int y)]) hx hb dX12_lightOf_19 rfl hl (by decide) rfl (fun ls hl => ?_)
    refine lv_iload_n hx hb dX12_lightOf_20 rfl (lv_at hl 0 rfl) ?_
    refine lv_sipush (v := 182) hx hb dX12_lightOf_21 (by decide) ?_
    refine lv_icmp_gt (tgt := 43) hx hb dX12_lightOf_24 (by decide) (fun cb => ?_) (fun cb => ?_)
    · have tcb := t_lt cb
      refine lv_sipush (v := 960) hx hb dX12_lightOf_43 (by decide) ?_
      refine lv_sipush (v := 480) hx hb dX12_lightOf_46 (by decide) ?_
      refine lv_iload_n hx hb dX12_lightOf_49 rfl (lv_at hl 0 rfl) ?_
      refine lv_sipush (v := 182) hx hb dX12_lightOf_50 (by decide) ?_
      refine lv_isub hx hb dX12_lightOf_53 ?_
      refine lv_topi (fun x_4 ex_4 => ?_)
      refine lv_imul hx hb dX12_lightOf_54 ?_
      refine lv_topi (fun x_5 ex_5 => ?_)
      refine lv_sipush (v := 183) hx hb dX12_lightOf_55 (by decide) ?_
      refine lv_idiv hx hb dX12_lightOf_58 (by decide) ?_
      refine lv_topi (fun x_6 ex_6 => ?_)
      refine lv_isub hx hb dX12_lightOf_59 ?_
      refine lv_topi (fun x_7 ex_7 => ?_)
      exact hret x_7 _ _ (show x_7 = sunM y from by subst_vars; rw [sunM_eq]; simp only [ca, cb, if_true, if_false]) rfl dX12_lightOf_60
    · have tcb := t_nlt cb
      refine lv_sipush (v := 480) hx hb dX12_lightOf_27 (by decide) ?_
      refine lv_sipush (v := 480) hx hb dX12_lightOf_30 (by decide) ?_
      refine lv_iload_n hx hb dX12_lightOf_33 rfl (lv_at hl 0 rfl) ?_
      refine lv_imul hx hb dX12_lightOf_34 ?_
      refine lv_topi (fun x_8 ex_8 => ?_)
      refine lv_sipush (v := 182) hx hb dX12_lightOf_35 (by decide) ?_
      refine lv_idiv hx hb dX12_lightOf_38 (by decide) ?_
      refine lv_topi (fun x_9 ex_9 => ?_)
      refine lv_iadd hx hb dX12_lightOf_39 ?_
      refine lv_topi (fun x_10 ex_10 => ?_)
      refine lv_goto (tgt := 60) hx hb dX12_lightOf_40 (by decide) ?_
      exact hret x_10 _ _ (show x_10 = sunM y from by subst_vars; rw [sunM_eq]; simp only [ca, cb, if_true, if_false]) rfl dX12_lightOf_60
  · have tca := t_nlt ca
    refine lv_iload_n hx hb dX12_lightOf_7 rfl (lv_at hl 0 rfl) ?_
    refine lv_sipush (v := 355) hx hb dX12_lightOf_8 (by decide) ?_
    refine lv_isub hx hb dX12_lightOf_11 ?_
    refine lv_topi (fun x_11 ex_11 => ?_)
    refine lv_goto (tgt := 19) hx hb dX12_lightOf_12 (by decide) ?_
    refine lv_istore_n (lv' := [(1, .int x_11), (0, .int y)]) hx hb dX12_lightOf_19 rfl hl (by decide) rfl (fun ls hl => ?_)
    refine lv_iload_n hx hb dX12_lightOf_20 rfl (lv_at hl 0 rfl) ?_
    refine lv_sipush (v := 182) hx hb dX12_lightOf_21 (by decide) ?_
    refine lv_icmp_gt (tgt := 43) hx hb dX12_lightOf_24 (by decide) (fun cb => ?_) (fun cb => ?_)
    · have tcb := t_lt cb
      refine lv_sipush (v := 960) hx hb dX12_lightOf_43 (by decide) ?_
      refine lv_sipush (v := 480) hx hb dX12_lightOf_46 (by decide) ?_
      refine lv_iload_n hx hb dX12_lightOf_49 rfl (lv_at hl 0 rfl) ?_
      refine lv_sipush (v := 182) hx hb dX12_lightOf_50 (by decide) ?_
      refine lv_isub hx hb dX12_lightOf_53 ?_
      refine lv_topi (fun x_13 ex_13 => ?_)
      refine lv_imul hx hb dX12_lightOf_54 ?_
      refine lv_topi (fun x_14 ex_14 => ?_)
      refine lv_sipush (v := 183) hx hb dX12_lightOf_55 (by decide) ?_
      refine lv_idiv hx hb dX12_lightOf_58 (by decide) ?_
      refine lv_topi (fun x_15 ex_15 => ?_)
      refine lv_isub hx hb dX12_lightOf_59 ?_
      refine lv_topi (fun x_16 ex_16 => ?_)
      exact hret x_16 _ _ (show x_16 = sunM y from by subst_vars; rw [sunM_eq]; simp only [ca, cb, if_true, if_false]) rfl dX12_lightOf_60
    · have tcb := t_nlt cb
      refine lv_sipush (v := 480) hx hb dX12_lightOf_27 (by decide) ?_
      refine lv_sipush (v := 480) hx hb dX12_lightOf_30 (by decide) ?_
      refine lv_iload_n hx hb dX12_lightOf_33 rfl (lv_at hl 0 rfl) ?_
      refine lv_imul hx hb dX12_lightOf_34 ?_
      refine lv_topi (fun x_17 ex_17 => ?_)
      refine lv_sipush (v := 182) hx hb dX12_lightOf_35 (by decide) ?_
      refine lv_idiv hx hb dX12_lightOf_38 (by decide) ?_
      refine lv_topi (fun x_18 ex_18 => ?_)
      refine lv_iadd hx hb dX12_lightOf_39 ?_
      refine lv_topi (fun x_19 ex_19 => ?_)
      refine lv_goto (tgt := 60) hx hb dX12_lightOf_40 (by decide) ?_
      exact hret x_19 _ _ (show x_19 = sunM y from by subst_vars; rw [sunM_eq]; simp only [ca, cb, if_true, if_false]) rfl dX12_lightOf_60

set_option maxHeartbeats 8000000 in
set_option maxRecDepth 100000 in
theorem m_rises {l : Launch} {D : va_G} {cI cZ cB : ClassId} {y : Int32}  : Met l yX12_rises wsX12_rises ({ frames := 1, cells := 0, slots := 0, locals := 21 }) (RO D cI cZ cB [.int y] []) (vp_Si (fun r : Int32 => r = sunR y)) 0 0 (fun _ => False) := by
  refine ro_ret (cc := cX12_rises) (maxL := 1) (ty := .int) (own := RX12) (by decide) rfl rfl (Nat.le_of_ble_eq_true rfl) ?_
  intro p e s m args below meth c Q S hret hP hK ls hl
  obtain ⟨hx, hb, hml, hown, hts⟩ := id S
  have hl : lv_has ls 1 [(0, .int y)] := hl
  have kk0 : (0 : Int32).toInt = 0 := by decide
  have kk2 : (2 : Int32).toInt = 2 := by decide
  have kk720 : (720 : Int32).toInt = 720 := by decide
  refine lv_sipush (v := 720) hx hb dX12_rises_0 (by decide) ?_
  refine lv_iload_n hx hb dX12_rises_3 rfl (lv_at hl 0 rfl) ?_
  have hPc := hP.sub (ws' := []) [] rfl
  refine roS (As := [.int y]) (rest := [.int 720]) S (m_lightOf  ) (va_cwS 1 hts gX12_rises_X12_lightOf rfl rfl rfl hd_X12_lightOf ⟨Nat.le_of_ble_eq_true rfl, Nat.le_of_ble_eq_true rfl⟩) hK hPc rfl hl.1 rfl (Nat.le_of_ble_eq_true rfl) dX12_rises_4 ⟨Nat.le_of_ble_eq_true rfl, Nat.le_of_ble_eq_true rfl⟩ (fun r_1 hw_1 => ?_)
  have hw_1 : r_1 = sunM y := hw_1
  refine lv_iconst (v := 2) hx hb dX12_rises_7 (by decide) ?_
  refine lv_idiv hx hb dX12_rises_8 (by decide) ?_
  refine lv_topi (fun x_2 ex_2 => ?_)
  refine lv_isub hx hb dX12_rises_9 ?_
  refine lv_topi (fun x_3 ex_3 => ?_)
  exact hret x_3 _ _ (show x_3 = sunR y from by subst_vars; rfl) rfl dX12_rises_10

set_option maxHeartbeats 8000000 in
set_option maxRecDepth 100000 in
theorem m_sets {l : Launch} {D : va_G} {cI cZ cB : ClassId} {y : Int32}  : Met l yX12_sets wsX12_sets ({ frames := 2, cells := 0, slots := 0, locals := 41 }) (RO D cI cZ cB [.int y] []) (vp_Si (fun r : Int32 => r = sunS y)) 0 0 (fun _ => False) := by
  refine ro_ret (cc := cX12_sets) (maxL := 1) (ty := .int) (own := RX12) (by decide) rfl rfl (Nat.le_of_ble_eq_true rfl) ?_
  intro p e s m args below meth c Q S hret hP hK ls hl
  obtain ⟨hx, hb, hml, hown, hts⟩ := id S
  have hl : lv_has ls 1 [(0, .int y)] := hl
  have kk0 : (0 : Int32).toInt = 0 := by decide
  refine lv_iload_n hx hb dX12_sets_0 rfl (lv_at hl 0 rfl) ?_
  have hPc := hP.sub (ws' := []) [] rfl
  refine roS (As := [.int y]) (rest := []) S (m_rises  ) (va_cwS 1 hts gX12_sets_X12_rises rfl rfl rfl hd_X12_rises ⟨Nat.le_of_ble_eq_true rfl, Nat.le_of_ble_eq_true rfl⟩) hK hPc rfl hl.1 rfl (Nat.le_of_ble_eq_true rfl) dX12_sets_1 ⟨Nat.le_of_ble_eq_true rfl, Nat.le_of_ble_eq_true rfl⟩ (fun r_1 hw_1 => ?_)
  have hw_1 : r_1 = sunR y := hw_1
  refine lv_iload_n hx hb dX12_sets_4 rfl (lv_at hl 0 rfl) ?_
  have hPc := hP.sub (ws' := []) [] rfl
  refine roS (As := [.int y]) (rest := [.int r_1]) S (m_lightOf  ) (va_cwS 1 hts gX12_sets_X12_lightOf rfl rfl rfl hd_X12_lightOf ⟨Nat.le_of_ble_eq_true rfl, Nat.le_of_ble_eq_true rfl⟩) hK hPc rfl hl.1 rfl (Nat.le_of_ble_eq_true rfl) dX12_sets_5 ⟨Nat.le_of_ble_eq_true rfl, Nat.le_of_ble_eq_true rfl⟩ (fun r_2 hw_2 => ?_)
  have hw_2 : r_2 = sunM y := hw_2
  refine lv_iadd hx hb dX12_sets_8 ?_
  refine lv_topi (fun x_3 ex_3 => ?_)
  exact hret x_3 _ _ (show x_3 = sunS y from by subst_vars; rfl) rfl dX12_sets_9

set_option maxHeartbeats 8000000 in
set_option maxRecDepth 100000 in
theorem m_plain {l : Launch} {D : va_G} {cI cZ cB : ClassId} {d k : Int32}  : Met l yX12_plain wsX12_plain ({ frames := 3, cells := 0, slots := 0, locals := 61 }) (RO D cI cZ cB [.int d, .int k] []) (vp_Si (fun r : Int32 => r = sunP (rem365 d) k)) 0 0 (fun _ => False) := by
  refine ro_ret (cc := cX12_plain) (maxL := 4) (ty := .int) (own := RX12) (by decide) rfl rfl (Nat.le_of_ble_eq_true rfl) ?_
  intro p e s m args below meth c Q S hret hP hK ls hl
  obtain ⟨hx, hb, hml, hown, hts⟩ := id S
  have hl : lv_has ls 4 [(0, .int d), (1, .int k)] := hl
  have kk0 : (0 : Int32).toInt = 0 := by decide
  have kk1 : (1 : Int32).toInt = 1 := by decide
  have kk2 : (2 : Int32).toInt = 2 := by decide
  have kk3 : (3 : Int32).toInt = 3 := by decide
  have kk6 : (6 : Int32).toInt = 6 := by decide
  have kk7 : (7 : Int32).toInt = 7 := by decide
  have kk11 : (11 : Int32).toInt = 11 := by decide
  have kk12 : (12 : Int32).toInt = 12 := by decide
  have kk60 : (60 : Int32).toInt = 60 := by decide
  have kk365 : (365 : Int32).toInt = 365 := by decide
  have kk1440 : (1440 : Int32).toInt = 1440 := by decide
  refine lv_iload_n hx hb dX12_plain_0 rfl (lv_at hl 0 rfl) ?_
  refine lv_sipush (v := 365) hx hb dX12_plain_1 (by decide) ?_
  refine lv_irem hx hb dX12_plain_4 (by decide) ?_
  refine lv_topi (fun x_1 ex_1 => ?_)
  refine lv_istore_n (lv' := [(2, .int x_1), (0, .int d), (1, .int k)]) hx hb dX12_plain_5 rfl hl (by decide) rfl (fun ls hl => ?_)
  refine lv_iload_n hx hb dX12_plain_6 rfl (lv_at hl 2 rfl) ?_
  refine lv_if_ne (tgt := 17) hx hb dX12_plain_7 (by decide) (fun c_2 => ?_) (fun c_2 => ?_)
  · have tc_2 := t_neq c_2
    refine lv_iload_n hx hb dX12_plain_17 rfl (lv_at hl 2 rfl) ?_
    refine lv_iconst (v := 1) hx hb dX12_plain_18 (by decide) ?_
    refine lv_icmp_ne (tgt := 30) hx hb dX12_plain_19 (by decide) (fun c_3 => ?_) (fun c_3 => ?_)
    · have tc_3 := t_neq c_3
      refine lv_iload_n hx hb dX12_plain_30 rfl (lv_at hl 2 rfl) ?_
      refine lv_bipush (v := 7) hx hb dX12_plain_31 (by decide) ?_
      refine lv_icmp_ne (tgt := 52) hx hb dX12_plain_33 (by decide) (fun c_4 => ?_) (fun c_4 => ?_)
      · have tc_4 := t_neq c_4
        refine lv_iload_n hx hb dX12_plain_52 rfl (lv_at hl 2 rfl) ?_
        refine lv_bipush (v := 6) hx hb dX12_plain_53 (by decide) ?_
        refine lv_icmp_ge (tgt := 66) hx hb dX12_plain_55 (by decide) (fun c_5 => ?_) (fun c_5 => ?_)
        · have tc_5 := t_le c_5
          refine lv_bipush (v := 11) hx hb dX12_plain_66 (by decide) ?_
          refine lv_istore_n (lv' := [(3, .int 11), (2, .int x_1), (0, .int d), (1, .int k)]) hx hb dX12_plain_68 rfl hl (by decide) rfl (fun ls hl => ?_)
          refine lv_iload_n hx hb dX12_plain_69 rfl (lv_at hl 1 rfl) ?_
          have hPc := hP.sub (ws' := []) [] rfl
          refine roS (As := [.int x_1]) (rest := []) S (m_rises  ) (va_cwS 1 hts gX12_plain_X12_rises rfl rfl rfl hd_X12_rises ⟨Nat.le_of_ble_eq_true rfl, Nat.le_of_ble_eq_true rfl⟩) hK hPc rfl hl.1 rfl (Nat.le_of_ble_eq_true rfl) dX12_plain_70 ⟨Nat.le_of_ble_eq_true rfl, Nat.le_of_ble_eq_true rfl⟩ (fun r_6 hw_6 => ?_)
          have hw_6 : r_6 = sunR x_1 := hw_6
          refine lv_iload_n hx hb dX12_plain_73 rfl (lv_at hl 1 rfl) ?_
          have hPc := hP.sub (ws' := []) [] rfl
          refine roS (As := [.int x_1]) (rest := [.int r_6]) S (m_lightOf  ) (va_cwS 1 hts gX12_plain_X12_lightOf rfl rfl rfl hd_X12_lightOf ⟨Nat.le_of_ble_eq_true rfl, Nat.le_of_ble_eq_true rfl⟩) hK hPc rfl hl.1 rfl (Nat.le_of_ble_eq_true rfl) dX12_plain_74 ⟨Nat.le_of_ble_eq_true rfl, Nat.le_of_ble_eq_true rfl⟩ (fun r_7 hw_7 => ?_)
          have hw_7 : r_7 = sunM x_1 := hw_7
          refine lv_iload_n hx hb dX12_plain_77 rfl (lv_at hl 0 rfl) ?_
          refine lv_imul hx hb dX12_plain_78 ?_
          refine lv_topi (fun x_8 ex_8 => ?_)
          refine lv_bipush (v := 12) hx hb dX12_plain_79 (by decide) ?_
          refine lv_idiv hx hb dX12_plain_81 (by decide) ?_
          refine lv_topi (fun x_9 ex_9 => ?_)
          refine lv_iadd hx hb dX12_plain_82 ?_
          refine lv_topi (fun x_10 ex_10 => ?_)
          exact hret x_10 _ _ (show x_10 = sunP (rem365 d) k from by subst_vars; unfold sunP rem365; (repeat' split) <;> first | rfl | contradiction | (exfalso; omega)) rfl dX12_plain_83
        · have tc_5 := t_nle c_5
          refine lv_iconst (v := 3) hx hb dX12_plain_58 (by decide) ?_
          refine lv_iload_n hx hb dX12_plain_59 rfl (lv_at hl 2 rfl) ?_
          refine lv_iconst (v := 2) hx hb dX12_plain_60 (by decide) ?_
          refine lv_isub hx hb dX12_plain_61 ?_
          refine lv_topi (fun x_11 ex_11 => ?_)
          refine lv_imul hx hb dX12_plain_62 ?_
          refine lv_topi (fun x_12 ex_12 => ?_)
          refine lv_goto (tgt := 68) hx hb dX12_plain_63 (by decide) ?_
          refine lv_istore_n (lv' := [(3, .int x_12), (2, .int x_1), (0, .int d), (1, .int k)]) hx hb dX12_plain_68 rfl hl (by decide) rfl (fun ls hl => ?_)
          refine lv_iload_n hx hb dX12_plain_69 rfl (lv_at hl 1 rfl) ?_
          have hPc := hP.sub (ws' := []) [] rfl
          refine roS (As := [.int x_1]) (rest := []) S (m_rises  ) (va_cwS 1 hts gX12_plain_X12_rises rfl rfl rfl hd_X12_rises ⟨Nat.le_of_ble_eq_true rfl, Nat.le_of_ble_eq_true rfl⟩) hK hPc rfl hl.1 rfl (Nat.le_of_ble_eq_true rfl) dX12_plain_70 ⟨Nat.le_of_ble_eq_true rfl, Nat.le_of_ble_eq_true rfl⟩ (fun r_13 hw_13 => ?_)
          have hw_13 : r_13 = sunR x_1 := hw_13
          refine lv_iload_n hx hb dX12_plain_73 rfl (lv_at hl 1 rfl) ?_
          have hPc := hP.sub (ws' := []) [] rfl
          refine roS (As := [.int x_1]) (rest := [.int r_13]) S (m_lightOf  ) (va_cwS 1 hts gX12_plain_X12_lightOf rfl rfl rfl hd_X12_lightOf ⟨Nat.le_of_ble_eq_true rfl, Nat.le_of_ble_eq_true rfl⟩) hK hPc rfl hl.1 rfl (Nat.le_of_ble_eq_true rfl) dX12_plain_74 ⟨Nat.le_of_ble_eq_true rfl, Nat.le_of_ble_eq_true rfl⟩ (fun r_14 hw_14 => ?_)
          have hw_14 : r_14 = sunM x_1 := hw_14
          refine lv_iload_n hx hb dX12_plain_77 rfl (lv_at hl 0 rfl) ?_
          refine lv_imul hx hb dX12_plain_78 ?_
          refine lv_topi (fun x_15 ex_15 => ?_)
          refine lv_bipush (v := 12) hx hb dX12_plain_79 (by decide) ?_
          refine lv_idiv hx hb dX12_plain_81 (by decide) ?_
          refine lv_topi (fun x_16 ex_16 => ?_)
          refine lv_iadd hx hb dX12_plain_82 ?_
          refine lv_topi (fun x_17 ex_17 => ?_)
          exact hret x_17 _ _ (show x_17 = sunP (rem365 d) k from by subst_vars; unfold sunP rem365; (repeat' split) <;> first | rfl | contradiction | (exfalso; omega)) rfl dX12_plain_83
      · have tc_4 := t_eq c_4
        refine lv_iload_n hx hb dX12_plain_36 rfl (lv_at hl 0 rfl) ?_
        have hPc := hP.sub (ws' := []) [] rfl
        refine roS (As := [.int x_1]) (rest := []) S (m_sets  ) (va_cwS 1 hts gX12_plain_X12_sets rfl rfl rfl hd_X12_sets ⟨Nat.le_of_ble_eq_true rfl, Nat.le_of_ble_eq_true rfl⟩) hK hPc rfl hl.1 rfl (Nat.le_of_ble_eq_true rfl) dX12_plain_37 ⟨Nat.le_of_ble_eq_true rfl, Nat.le_of_ble_eq_true rfl⟩ (fun r_18 hw_18 => ?_)
        have hw_18 : r_18 = sunS x_1 := hw_18
        refine lv_sipush (v := 1440) hx hb dX12_plain_40 (by decide) ?_
        refine lv_iload_n hx hb dX12_plain_43 rfl (lv_at hl 0 rfl) ?_
        have hPc := hP.sub (ws' := []) [] rfl
        refine roS (As := [.int x_1]) (rest := [.int 1440, .int r_18]) S (m_sets  ) (va_cwS 1 hts gX12_plain_X12_sets rfl rfl rfl hd_X12_sets ⟨Nat.le_of_ble_eq_true rfl, Nat.le_of_ble_eq_true rfl⟩) hK hPc rfl hl.1 rfl (Nat.le_of_ble_eq_true rfl) dX12_plain_44 ⟨Nat.le_of_ble_eq_true rfl, Nat.le_of_ble_eq_true rfl⟩ (fun r_19 hw_19 => ?_)
        have hw_19 : r_19 = sunS x_1 := hw_19
        refine lv_isub hx hb dX12_plain_47 ?_
        refine lv_topi (fun x_20 ex_20 => ?_)
        refine lv_iconst (v := 3) hx hb dX12_plain_48 (by decide) ?_
        refine lv_idiv hx hb dX12_plain_49 (by decide) ?_
        refine lv_topi (fun x_21 ex_21 => ?_)
        refine lv_iadd hx hb dX12_plain_50 ?_
        refine lv_topi (fun x_22 ex_22 => ?_)
        exact hret x_22 _ _ (show x_22 = sunP (rem365 d) k from by subst_vars; unfold sunP rem365; (repeat' split) <;> first | rfl | contradiction | (exfalso; omega)) rfl dX12_plain_51
    · have tc_3 := t_eq c_3
      refine lv_iload_n hx hb dX12_plain_22 rfl (lv_at hl 0 rfl) ?_
      have hPc := hP.sub (ws' := []) [] rfl
      refine roS (As := [.int x_1]) (rest := []) S (m_rises  ) (va_cwS 1 hts gX12_plain_X12_rises rfl rfl rfl hd_X12_rises ⟨Nat.le_of_ble_eq_true rfl, Nat.le_of_ble_eq_true rfl⟩) hK hPc rfl hl.1 rfl (Nat.le_of_ble_eq_true rfl) dX12_plain_23 ⟨Nat.le_of_ble_eq_true rfl, Nat.le_of_ble_eq_true rfl⟩ (fun r_23 hw_23 => ?_)
      have hw_23 : r_23 = sunR x_1 := hw_23
      refine lv_bipush (v := 60) hx hb dX12_plain_26 (by decide) ?_
      refine lv_isub hx hb dX12_plain_28 ?_
      refine lv_topi (fun x_24 ex_24 => ?_)
      exact hret x_24 _ _ (show x_24 = sunP (rem365 d) k from by subst_vars; unfold sunP rem365; (repeat' split) <;> first | rfl | contradiction | (exfalso; omega)) rfl dX12_plain_29
  · have tc_2 := t_eq c_2
    refine lv_iload_n hx hb dX12_plain_10 rfl (lv_at hl 0 rfl) ?_
    have hPc := hP.sub (ws' := []) [] rfl
    refine roS (As := [.int x_1]) (rest := []) S (m_rises  ) (va_cwS 1 hts gX12_plain_X12_rises rfl rfl rfl hd_X12_rises ⟨Nat.le_of_ble_eq_true rfl, Nat.le_of_ble_eq_true rfl⟩) hK hPc rfl hl.1 rfl (Nat.le_of_ble_eq_true rfl) dX12_plain_11 ⟨Nat.le_of_ble_eq_true rfl, Nat.le_of_ble_eq_true rfl⟩ (fun r_25 hw_25 => ?_)
    have hw_25 : r_25 = sunR x_1 := hw_25
    refine lv_iconst (v := 3) hx hb dX12_plain_14 (by decide) ?_
    refine lv_idiv hx hb dX12_plain_15 (by decide) ?_
    refine lv_topi (fun x_26 ex_26 => ?_)
    exact hret x_26 _ _ (show x_26 = sunP (rem365 d) k from by subst_vars; unfold sunP rem365; (repeat' split) <;> first | rfl | contradiction | (exfalso; omega)) rfl dX12_plain_16

