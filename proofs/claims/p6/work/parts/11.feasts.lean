theorem in_f_size_X3 : ∀ w ∈ wsX30, w ∈ wsX3_size := tl_X3_size_X3
set_option maxHeartbeats 8000000 in
set_option maxRecDepth 100000 in
theorem f_size {l : Launch} {D : va_G} {cI cZ cB : ClassId} {h a_falls a_ranks a_standsOn a_heldOn a_holder a_standing : Nat} {v_size : Int32}  : Met l yX3_size wsX3_size ({ frames := 0, cells := 0, slots := 0, locals := 0 }) (RO D cI cZ cB [.ref h] [(h, .inr (3, [.ref a_falls, .ref a_ranks, .ref a_standsOn, .ref a_heldOn, .ref a_holder, .ref a_standing, .int v_size]))]) (vp_Si (fun r : Int32 => r = v_size)) 0 0 (fun _ => False) := by
  refine ro_ret (cc := cX3_size) (maxL := 1) (ty := .int) (own := RX3) (by decide) rfl rfl (Nat.le_of_ble_eq_true rfl) ?_
  intro p e s m args below meth c Q S hret hP hK ls hl
  obtain ⟨hx, hb, hml, hown, hts⟩ := id S
  have hl : lv_has ls 1 [(0, .ref h)] := hl
  have kk0 : (0 : Int32).toInt = 0 := by decide
  have lk0 := hts (.fieldLink RX3 30 "AbbeyHours$Feasts" "size" "I") (List.mem_cons_of_mem _ (List.mem_append_left _ (List.mem_of_getElem? (i := 0) rfl)))
  refine lv_aload_n hx hb dX3_size_0 rfl (lv_at hl 0 rfl) ?_
  refine va_get (D := D) (ci := 3) (v := .int v_size) (C := RX3) (T := TX3) (N := 7) hx hb hts in_f_size_X3 hown hK.1 hP 0 rfl rfl 6 (by decide) lk0 (fun _ h9 => h9) rfl dX3_size_1 ?_
  exact hret v_size _ _ (show v_size = v_size from rfl) rfl dX3_size_4

theorem in_f_heldBy_X3 : ∀ w ∈ wsX30, w ∈ wsX3_heldBy := tl_X3_heldBy_X3
set_option maxHeartbeats 8000000 in
set_option maxRecDepth 100000 in
theorem f_heldBy {l : Launch} {D : va_G} {cI cZ cB : ClassId} {h a_falls a_ranks a_standsOn a_heldOn a_holder a_standing : Nat} {v_size : Int32} {f_holder : Nat → Int32} {d : Int32} (hv_size0 : 0 ≤ v_size.toInt) (hv_size1 : v_size.toInt ≤ 40) (hh : 0 < v_size.toInt → InR f_holder 365 (-1) v_size.toInt) : Met l yX3_heldBy wsX3_heldBy ({ frames := 2, cells := 0, slots := 0, locals := 42 }) (RO D cI cZ cB [.ref h, .int d] [(h, .inr (3, [.ref a_falls, .ref a_ranks, .ref a_standsOn, .ref a_heldOn, .ref a_holder, .ref a_standing, .int v_size])), (a_holder, .inl (cI, 365, .inl f_holder))]) (vp_Si (fun r : Int32 => (v_size.toInt = 0 → r.toInt = -1) ∧ -1 ≤ r.toInt ∧ (r.toInt < v_size.toInt ∨ r.toInt = -1))) 0 0 (fun _ => False) := by
  refine ro_ret (cc := cX3_heldBy) (maxL := 2) (ty := .int) (own := RX3) (by decide) rfl rfl (Nat.le_of_ble_eq_true rfl) ?_
  intro p e s m args below meth c Q S hret hP hK ls hl
  obtain ⟨hx, hb, hml, hown, hts⟩ := id S
  have hl : lv_has ls 2 [(0, .ref h), (1, .int d)] := hl
  have kkm1 : (-1 : Int32).toInt = -1 := by decide
  have kk0 : (0 : Int32).toInt = 0 := by decide
  have lk0 := hts (.fieldLink RX3 30 "AbbeyHours$Feasts" "size" "I") (List.mem_cons_of_mem _ (List.mem_append_left _ (List.mem_of_getElem? (i := 0) rfl)))
  have lk1 := hts (.initialized RX11) (List.mem_cons_of_mem _ (List.mem_append_left _ (List.mem_of_getElem? (i := 3) rfl)))
  have lk2 := hts (.static yX11_isDayOfYear) (List.mem_cons_of_mem _ (List.mem_append_left _ (List.mem_of_getElem? (i := 2) rfl)))
  have lk3 := hts (.fieldLink RX3 24 "AbbeyHours$Feasts" "holder" "[I") (List.mem_cons_of_mem _ (List.mem_append_left _ (List.mem_of_getElem? (i := 1) rfl)))
  refine lv_aload_n hx hb dX3_heldBy_0 rfl (lv_at hl 0 rfl) ?_
  refine va_get (D := D) (ci := 3) (v := .int v_size) (C := RX3) (T := TX3) (N := 7) hx hb hts in_f_heldBy_X3 hown hK.1 hP 0 rfl rfl 6 (by decide) lk0 (fun _ h9 => h9) rfl dX3_heldBy_1 ?_
  refine lv_if_le (tgt := 23) hx hb dX3_heldBy_4 (by decide) (fun c_1 => ?_) (fun c_1 => ?_)
  · have tc_1 := t_le c_1
    refine lv_iconst (v := (-1)) hx hb dX3_heldBy_23 (by decide) ?_
    exact hret (-1) _ _ (show (v_size.toInt = 0 → (-1 : Int32).toInt = -1) ∧ -1 ≤ (-1 : Int32).toInt ∧ ((-1 : Int32).toInt < v_size.toInt ∨ (-1 : Int32).toInt = -1) from by omega) rfl dX3_heldBy_24
  · have tc_1 := t_nle c_1
    refine lv_iload_n hx hb dX3_heldBy_7 rfl (lv_at hl 1 rfl) ?_
    have hPc := hP.sub (ws' := []) [] rfl
    refine roSN (As := [.int d]) (rest := []) S (w_isDayOfYear  ) (⟨va_cnB 1 hts gX3_heldBy_X11_isDayOfYear_n37 rfl rfl rfl (hK.nm 8 rfl) lk1 (by decide +kernel) ⟨Nat.le_of_ble_eq_true rfl, Nat.le_of_ble_eq_true rfl⟩, lk2, trivial⟩) hK hPc rfl hl.1 rfl (Nat.le_of_ble_eq_true rfl) dX3_heldBy_8 ⟨Nat.le_of_ble_eq_true rfl, Nat.le_of_ble_eq_true rfl⟩ (fun r_2 hw_2 => ?_)
    have hw_2 : (r_2.toInt = 1 ∧ 0 ≤ d.toInt ∧ d.toInt ≤ 364) ∨ (r_2.toInt = 0 ∧ (d.toInt < 0 ∨ 364 < d.toInt)) := hw_2
    refine lv_if_eq (tgt := 23) hx hb dX3_heldBy_11 (by decide) (fun c_3 => ?_) (fun c_3 => ?_)
    · have tc_3 := t_eq c_3
      refine lv_iconst (v := (-1)) hx hb dX3_heldBy_23 (by decide) ?_
      exact hret (-1) _ _ (show (v_size.toInt = 0 → (-1 : Int32).toInt = -1) ∧ -1 ≤ (-1 : Int32).toInt ∧ ((-1 : Int32).toInt < v_size.toInt ∨ (-1 : Int32).toInt = -1) from by omega) rfl dX3_heldBy_24
    · have tc_3 := t_neq c_3
      refine lv_aload_n hx hb dX3_heldBy_14 rfl (lv_at hl 0 rfl) ?_
      refine va_get (D := D) (ci := 3) (v := .ref a_holder) (C := RX3) (T := TX3) (N := 7) hx hb hts in_f_heldBy_X3 hown hK.1 hP 0 rfl rfl 4 (by decide) lk3 (fun _ h9 => h9) rfl dX3_heldBy_15 ?_
      refine lv_iload_n hx hb dX3_heldBy_18 rfl (lv_at hl 1 rfl) ?_
      refine va_iald hx hb hK.1 hP 1 0 rfl rfl (t_in (by omega) (by omega)) dX3_heldBy_19 ?_
      refine lv_topi (fun y_4 ey_4 => ?_)
      have hq := (hh (by omega)).get (i := d) (by omega) (by omega)
      rw [← ey_4] at hq
      refine lv_goto (tgt := 24) hx hb dX3_heldBy_20 (by decide) ?_
      exact hret y_4 _ _ (show (v_size.toInt = 0 → y_4.toInt = -1) ∧ -1 ≤ y_4.toInt ∧ (y_4.toInt < v_size.toInt ∨ y_4.toInt = -1) from by omega) rfl dX3_heldBy_24

theorem in_f_rankHeld_X3 : ∀ w ∈ wsX30, w ∈ wsX3_rankHeld := tl_X3_rankHeld_X3
set_option maxHeartbeats 8000000 in
set_option maxRecDepth 100000 in
theorem f_rankHeld {l : Launch} {D : va_G} {cI cZ cB : ClassId} {h a_falls a_ranks a_standsOn a_heldOn a_holder a_standing : Nat} {v_size : Int32} {f_ranks f_holder : Nat → Int32} {d : Int32} (hv_size0 : 0 ≤ v_size.toInt) (hv_size1 : v_size.toInt ≤ 40) (hh : 0 < v_size.toInt → InR f_holder 365 (-1) v_size.toInt) : Met l yX3_rankHeld wsX3_rankHeld ({ frames := 3, cells := 0, slots := 0, locals := 63 }) (RO D cI cZ cB [.ref h, .int d] [(h, .inr (3, [.ref a_falls, .ref a_ranks, .ref a_standsOn, .ref a_heldOn, .ref a_holder, .ref a_standing, .int v_size])), (a_ranks, .inl (cI, 40, .inl f_ranks)), (a_holder, .inl (cI, 365, .inl f_holder))]) (vp_Si (fun r : Int32 => v_size.toInt = 0 → r.toInt = 0)) 0 0 (fun _ => False) := by
  refine ro_ret (cc := cX3_rankHeld) (maxL := 3) (ty := .int) (own := RX3) (by decide) rfl rfl (Nat.le_of_ble_eq_true rfl) ?_
  intro p e s m args below meth c Q S hret hP hK ls hl
  obtain ⟨hx, hb, hml, hown, hts⟩ := id S
  have hl : lv_has ls 3 [(0, .ref h), (1, .int d)] := hl
  have kkm1 : (-1 : Int32).toInt = -1 := by decide
  have kk0 : (0 : Int32).toInt = 0 := by decide
  have lk0 := hts (.fieldLink RX3 15 "AbbeyHours$Feasts" "ranks" "[I") (List.mem_cons_of_mem _ (List.mem_append_left _ (List.mem_of_getElem? (i := 0) rfl)))
  refine lv_aload_n hx hb dX3_rankHeld_0 rfl (lv_at hl 0 rfl) ?_
  refine lv_iload_n hx hb dX3_rankHeld_1 rfl (lv_at hl 1 rfl) ?_
  have hPc := hP.sub (ws' := [(h, .inr (3, [.ref a_falls, .ref a_ranks, .ref a_standsOn, .ref a_heldOn, .ref a_holder, .ref a_standing, .int v_size])), (a_holder, .inl (cI, 365, .inl f_holder))]) [0, 2] rfl
  refine roV (As := [.int d]) (rest := []) S (f_heldBy  (by omega) (by omega) (hh)) (cwV 1 hts gX3_rankHeld_X3_heldBy rfl rfl rfl ⟨rfl, hd_X3_heldBy⟩ ⟨Nat.le_of_ble_eq_true rfl, Nat.le_of_ble_eq_true rfl⟩) hK hPc (va_recv hK.1 hPc (ci := 3) (q0 := 0) rfl rfl) rfl hl.1 rfl (Nat.le_of_ble_eq_true rfl) dX3_rankHeld_2 ⟨Nat.le_of_ble_eq_true rfl, Nat.le_of_ble_eq_true rfl⟩ (fun r_1 hw_1 => ?_)
  have hw_1 : (v_size.toInt = 0 → r_1.toInt = -1) ∧ -1 ≤ r_1.toInt ∧ (r_1.toInt < v_size.toInt ∨ r_1.toInt = -1) := hw_1
  refine lv_istore_n (lv' := [(2, .int r_1), (0, .ref h), (1, .int d)]) hx hb dX3_rankHeld_5 rfl hl (by decide) rfl (fun ls hl => ?_)
  refine lv_iload_n hx hb dX3_rankHeld_6 rfl (lv_at hl 0 rfl) ?_
  refine lv_iconst (v := (-1)) hx hb dX3_rankHeld_7 (by decide) ?_
  refine lv_icmp_ne (tgt := 15) hx hb dX3_rankHeld_8 (by decide) (fun c_2 => ?_) (fun c_2 => ?_)
  · have tc_2 := t_neq c_2
    refine lv_aload_n hx hb dX3_rankHeld_15 rfl (lv_at hl 1 rfl) ?_
    refine va_get (D := D) (ci := 3) (v := .ref a_ranks) (C := RX3) (T := TX3) (N := 7) hx hb hts in_f_rankHeld_X3 hown hK.1 hP 0 rfl rfl 1 (by decide) lk0 (fun _ h9 => h9) rfl dX3_rankHeld_16 ?_
    refine lv_iload_n hx hb dX3_rankHeld_19 rfl (lv_at hl 0 rfl) ?_
    refine va_iald hx hb hK.1 hP 1 0 rfl rfl (t_in (by omega) (by omega)) dX3_rankHeld_20 ?_
    refine lv_topi (fun y_3 ey_3 => ?_)
    exact hret y_3 _ _ (show v_size.toInt = 0 → y_3.toInt = 0 from by omega) rfl dX3_rankHeld_21
  · have tc_2 := t_eq c_2
    refine lv_iconst (v := 0) hx hb dX3_rankHeld_11 (by decide) ?_
    refine lv_goto (tgt := 21) hx hb dX3_rankHeld_12 (by decide) ?_
    exact hret 0 _ _ (show v_size.toInt = 0 → (0 : Int32).toInt = 0 from by omega) rfl dX3_rankHeld_21

