theorem in_f_size_X3 : ∀ w ∈ wsX30, w ∈ wsX3_size := tl_X3_size_X3
set_option maxHeartbeats 8000000 in
set_option maxRecDepth 100000 in
theorem f_size {l : Launch} {D : va_G} {cI cZ cB : ClassId} {h a_falls a_ranks a_standsOn a_heldOn a_holder a_standing : Nat} {v_size : Int32}  : Met l yX3_size wsX3_size ({ frames := 0, cells := 0, slots := 0, locals := 0 }) (RO D cI cZ cB [.ref h] [(h, .inr (3, [.ref a_falls, .ref a_ranks, .ref a_standsOn, .ref a_heldOn, .ref a_holder, .ref a_standing, .int v_size]))]) (vp_Si (fun r : Int32 => r = v_size)) 0 0 (fun _ => False) := by
  refine ro_ret (cc := cX3_size) (maxL := 1) (ty := .int) (own := RX3) (by decide) rfl rfl (Nat.le_of_ble_eq_true rfl) ?_
  intro p e s m args below meth c Q S hret hP hK ls hl
  obtain ⟨hx, hb, hml, hown, hts⟩ := id S
  have hl : lv_has ls 1 [(0, .ref h)] := hl
  have kk0 : (0 : Int32).toInt = 0 := by decide
  have lk0 := hts (.fieldLink RX3 30 "AbbeyHours$Feasts" "size" "I") (List.mem_cons_of_mem _ (List.mem_append_left _ (List.mem_of_getElem? (i := 0) rfl)))
  refine lv_aload_n hx hb dX3_size_0 rfl (lv_at hl 0 rfl) ?_
  refine va_get (D := D) (ci := 3) (v := .int v_size) (C := RX3) (T := TX3) (N := 7) hx hb hts in_f_size_X3 hown hK.1 hP 0 rfl rfl 6 (by decide) lk0 (fun _ h9 => h9) rfl dX3_size_1 ?_
  exact hret v_size _ _ (show v_size = v_size from rfl) rfl dX3_size_4

theorem in_f_heldBy_X3 : ∀ w ∈ wsX30, w ∈ wsX3_heldBy := tl_X3_heldBy_X3
set_option maxHeartbeats 8000000 in
set_option maxRecDepth 100000 in
theorem f_heldBy {l : Launch} {D : va_G} {cI cZ cB : ClassId} {h a_falls a_ranks a_standsOn a_heldOn a_holder a_standing : Nat} {v_size : Int32} {f_holder : Nat → Int32} {d : Int32} (hv_size0 : 0 ≤ v_size.toInt) (hv_size1 : v_size.toInt ≤ 40) (hh : 0 < v_size.toInt → InR f_holder 365 (-1) v_size.toInt) : Met l yX3_heldBy wsX3_heldBy ({ frames := 2, cells := 0, slots := 0, locals := 42 }) (RO D cI cZ cB [.ref h, .int d] [(h, .inr (3, [.ref a_falls, .ref a_ranks, .ref a_standsOn, .ref a_heldOn, .ref a_holder, .ref a_standing, .int v_size])), (a_holder, .inl (cI, 365, .inl f_holder))]) (vp_Si (fun r : Int32 => (v_size.toInt = 0 → r.toInt = -1) ∧ -1 ≤ r.toInt ∧ (r.toInt < v_size.toInt ∨ r.toInt = -1))) 0 0 (fun _ => False) := by
  refine ro_ret (cc := cX3_heldBy) (maxL := 2) (ty := .int) (own := RX3) (by decide) rfl rfl (Nat.le_of_ble_eq_true rfl) ?_
  intro p e s m args below meth c Q S hret hP hK ls hl
  obtain ⟨hx, hb, hml, hown, hts⟩ := id S
  have hl : lv_has ls 2 [(0, .ref h), (1, .int d)] := hl
  have kkm1 : (-1 : Int32).toInt = -1 := by decide
  have kk0 : (0 : Int32).toInt = 0 := by decide
  have lk0 := hts (.fieldLink RX3 30 "AbbeyHours$Feasts" "size" "I") (List.mem_cons_of_mem _ (List.mem_append_left _ (List.mem_of_getElem? (i := 0) rfl)))
  have lk1 := hts (.initialized RX11) (List.mem_cons_of_mem _ (List.mem_append_left _ (List.mem_of_getElem? (i := 3) rfl)))
  have lk2 := hts (.static yX11_isDayOfYear) (List.mem_cons_of_mem _ (List.mem_append_left _ (List.mem_of_getElem? (i := 2) rfl)))
  have lk3 := hts (.fieldLink RX3 24 "AbbeyHours$Feasts" "holder" "[I") (List.mem_cons_of_mem _ (List.mem_append_left _ (List.mem_of_getElem? (i := 1) rfl)))
  refine lv_aload_n hx hb dX3_heldBy_0 rfl (lv_at hl 0 rfl) ?_
  refine va_get (D := D) (ci := 3) (v := .int v_size) (C := RX3) (T := TX3) (N := 7) hx hb hts in_f_heldBy_X3 hown hK.1 hP 0 rfl rfl 6 (by decide) lk0 (fun _ h9 => h9) rfl dX3_heldBy_1 ?_
  refine lv_if_le (tgt := 23) hx hb dX3_heldBy_4 (by decide) (fun c_1 => ?_) (fun c_1 => ?_)
  · have tc_1 := t_le c_1
    refine lv_iconst (v := (-1)) hx hb dX3_heldBy_23 (by decide) ?_
    exact hret (-1) _ _ (show (v_size.toInt = 0 → (-1 : Int32).toInt = -1) ∧ -1 ≤ (-1 : Int32).toInt ∧ ((-1 : Int32).toInt < v_size.toInt ∨ (-1 : Int32).toInt = -1) from by omega) rfl dX3_heldBy_24
  · have tc_1 := t_nle c_1
    refine lv_iload_n hx hb dX3_heldBy_7 rfl (lv_at hl 1 rfl) ?_
    have hPc := hP.sub (ws' := []) [] rfl
    refine roSN (As := [.int d]) (rest := []) S (w_isDayOfYear  ) (⟨va_cnB 1 hts gX3_heldBy_X11_isDayOfYear_n37 rfl rfl rfl (hK.nm 8 rfl) lk1 (by decide +kernel) ⟨Nat.le_of_ble_eq_true rfl, Nat.le_of_ble_eq_true rfl⟩, lk2, trivial⟩) hK hPc rfl hl.1 rfl (Nat.le_of_ble_eq_true rfl) dX3_heldBy_8 ⟨Nat.le_of_ble_eq_true rfl, Nat.le_of_ble_eq_true rfl⟩ (fun r_2 hw_2 => ?_)
    have hw_2 : (r_2.toInt = 1 ∧ 0 ≤ d.toInt ∧ d.toInt ≤ 364) ∨ (r_2.toInt = 0 ∧ (d.toInt < 0 ∨ 364 < d.toInt)) := hw_2
    refine lv_if_eq (tgt := 23) hx hb dX3_heldBy_11 (by decide) (fun c_3 => ?_) (fun c_3 => ?_)
    · have tc_3 := t_eq c_3
      refine lv_iconst (v := (-1)) hx hb dX3_heldBy_23 (by decide) ?_
      exact hret (-1) _ _ (show (v_size.toInt = 0 → (-1 : Int32).toInt = -1) ∧ -1 ≤ (-1 : Int32).toInt ∧ ((-1 : Int32).toInt < v_size.toInt ∨ (-1 : Int32).toInt = -1) from by omega) rfl dX3_heldBy_24
    · have tc_3 := t_neq c_3
      refine lv_aload_n hx hb dX3_heldBy_14 rfl (lv_at hl 0 rfl) ?_
      refine va_get (D := D) (ci := 3) (v := .ref a_holder) (C := RX3) (T := TX3) (N := 7) hx hb hts in_f_heldBy_X3 hown hK.1 hP 0 rfl rfl 4 (by decide) lk3 (fun _ h9 => h9) rfl dX3_heldBy_15 ?_
      refine lv_iload_n hx hb dX3_heldBy_18 rfl (lv_at hl 1 rfl) ?_
      refine va_iald hx hb hK.1 hP 1 0 rfl rfl (t_in (by omega) (by omega)) dX3_heldBy_19 ?_
      refine lv_topi (fun y_4 ey_4 => ?_)
      have hq := (hh (by omega)).get (i := d) (by omega) (by omega)
      rw [← ey_4] at hq
      refine lv_goto (tgt := 24) hx hb dX3_heldBy_20 (by decide) ?_
      exact hret y_4 _ _ (show (v_size.toInt = 0 → y_4.toInt = -1) ∧ -1 ≤ y_4.toInt ∧ (y_4.toInt < v_size.toInt ∨ y_4.toInt = -1) from by omega) rfl dX3_heldBy_24

theorem in_f_dayOf_X3 : ∀ w ∈ wsX30, w ∈ wsX3_dayOfFeast := tl_X3_dayOfFeast_X3
set_option maxHeartbeats 8000000 in
set_option maxRecDepth 100000 in
theorem f_dayOf {l : Launch} {D : va_G} {cI cZ cB : ClassId} {h a_falls a_ranks a_standsOn a_heldOn a_holder a_standing : Nat} {v_size : Int32} {f_heldOn : Nat → Int32} {i : Int32} (hv_size0 : 0 ≤ v_size.toInt) (hv_size1 : v_size.toInt ≤ 40) : Met l yX3_dayOfFeast wsX3_dayOfFeast ({ frames := 0, cells := 0, slots := 0, locals := 0 }) (RO D cI cZ cB [.ref h, .int i] [(h, .inr (3, [.ref a_falls, .ref a_ranks, .ref a_standsOn, .ref a_heldOn, .ref a_holder, .ref a_standing, .int v_size])), (a_heldOn, .inl (cI, 40, .inl f_heldOn))]) (vp_Si (fun r : Int32 => v_size.toInt = 0 → r.toInt = -1)) 0 0 (fun _ => False) := by
  refine ro_ret (cc := cX3_dayOfFeast) (maxL := 2) (ty := .int) (own := RX3) (by decide) rfl rfl (Nat.le_of_ble_eq_true rfl) ?_
  intro p e s m args below meth c Q S hret hP hK ls hl
  obtain ⟨hx, hb, hml, hown, hts⟩ := id S
  have hl : lv_has ls 2 [(0, .ref h), (1, .int i)] := hl
  have kkm1 : (-1 : Int32).toInt = -1 := by decide
  have kk0 : (0 : Int32).toInt = 0 := by decide
  have lk0 := hts (.fieldLink RX3 30 "AbbeyHours$Feasts" "size" "I") (List.mem_cons_of_mem _ (List.mem_append_left _ (List.mem_of_getElem? (i := 0) rfl)))
  have lk1 := hts (.fieldLink RX3 21 "AbbeyHours$Feasts" "heldOn" "[I") (List.mem_cons_of_mem _ (List.mem_append_left _ (List.mem_of_getElem? (i := 1) rfl)))
  refine lv_iload_n hx hb dX3_dayOfFeast_0 rfl (lv_at hl 1 rfl) ?_
  refine lv_if_lt (tgt := 21) hx hb dX3_dayOfFeast_1 (by decide) (fun c_1 => ?_) (fun c_1 => ?_)
  · have tc_1 := t_lt c_1
    refine lv_iconst (v := (-1)) hx hb dX3_dayOfFeast_21 (by decide) ?_
    exact hret (-1) _ _ (show v_size.toInt = 0 → (-1 : Int32).toInt = -1 from by omega) rfl dX3_dayOfFeast_22
  · have tc_1 := t_nlt c_1
    refine lv_iload_n hx hb dX3_dayOfFeast_4 rfl (lv_at hl 1 rfl) ?_
    refine lv_aload_n hx hb dX3_dayOfFeast_5 rfl (lv_at hl 0 rfl) ?_
    refine va_get (D := D) (ci := 3) (v := .int v_size) (C := RX3) (T := TX3) (N := 7) hx hb hts in_f_dayOf_X3 hown hK.1 hP 0 rfl rfl 6 (by decide) lk0 (fun _ h9 => h9) rfl dX3_dayOfFeast_6 ?_
    refine lv_icmp_ge (tgt := 21) hx hb dX3_dayOfFeast_9 (by decide) (fun c_2 => ?_) (fun c_2 => ?_)
    · have tc_2 := t_le c_2
      refine lv_iconst (v := (-1)) hx hb dX3_dayOfFeast_21 (by decide) ?_
      exact hret (-1) _ _ (show v_size.toInt = 0 → (-1 : Int32).toInt = -1 from by omega) rfl dX3_dayOfFeast_22
    · have tc_2 := t_nle c_2
      refine lv_aload_n hx hb dX3_dayOfFeast_12 rfl (lv_at hl 0 rfl) ?_
      refine va_get (D := D) (ci := 3) (v := .ref a_heldOn) (C := RX3) (T := TX3) (N := 7) hx hb hts in_f_dayOf_X3 hown hK.1 hP 0 rfl rfl 3 (by decide) lk1 (fun _ h9 => h9) rfl dX3_dayOfFeast_13 ?_
      refine lv_iload_n hx hb dX3_dayOfFeast_16 rfl (lv_at hl 1 rfl) ?_
      refine va_iald hx hb hK.1 hP 1 0 rfl rfl (t_in (by omega) (by omega)) dX3_dayOfFeast_17 ?_
      refine lv_topi (fun y_3 ey_3 => ?_)
      refine lv_goto (tgt := 22) hx hb dX3_dayOfFeast_18 (by decide) ?_
      exact hret y_3 _ _ (show v_size.toInt = 0 → y_3.toInt = -1 from by omega) rfl dX3_dayOfFeast_22

theorem in_f_rankHeld_X3 : ∀ w ∈ wsX30, w ∈ wsX3_rankHeld := tl_X3_rankHeld_X3
set_option maxHeartbeats 8000000 in
set_option maxRecDepth 100000 in
theorem f_rankHeld {l : Launch} {D : va_G} {cI cZ cB : ClassId} {h a_falls a_ranks a_standsOn a_heldOn a_holder a_standing : Nat} {v_size : Int32} {f_ranks f_holder : Nat → Int32} {d : Int32} (hv_size0 : 0 ≤ v_size.toInt) (hv_size1 : v_size.toInt ≤ 40) (hh : 0 < v_size.toInt → InR f_holder 365 (-1) v_size.toInt) : Met l yX3_rankHeld wsX3_rankHeld ({ frames := 3, cells := 0, slots := 0, locals := 63 }) (RO D cI cZ cB [.ref h, .int d] [(h, .inr (3, [.ref a_falls, .ref a_ranks, .ref a_standsOn, .ref a_heldOn, .ref a_holder, .ref a_standing, .int v_size])), (a_ranks, .inl (cI, 40, .inl f_ranks)), (a_holder, .inl (cI, 365, .inl f_holder))]) (vp_Si (fun r : Int32 => v_size.toInt = 0 → r.toInt = 0)) 0 0 (fun _ => False) := by
  refine ro_ret (cc := cX3_rankHeld) (maxL := 3) (ty := .int) (own := RX3) (by decide) rfl rfl (Nat.le_of_ble_eq_true rfl) ?_
  intro p e s m args below meth c Q S hret hP hK ls hl
  obtain ⟨hx, hb, hml, hown, hts⟩ := id S
  have hl : lv_has ls 3 [(0, .ref h), (1, .int d)] := hl
  have kkm1 : (-1 : Int32).toInt = -1 := by decide
  have kk0 : (0 : Int32).toInt = 0 := by decide
  have lk0 := hts (.fieldLink RX3 15 "AbbeyHours$Feasts" "ranks" "[I") (List.mem_cons_of_mem _ (List.mem_append_left _ (List.mem_of_getElem? (i := 0) rfl)))
  refine lv_aload_n hx hb dX3_rankHeld_0 rfl (lv_at hl 0 rfl) ?_
  refine lv_iload_n hx hb dX3_rankHeld_1 rfl (lv_at hl 1 rfl) ?_
  have hPc := hP.sub (ws' := [(h, .inr (3, [.ref a_falls, .ref a_ranks, .ref a_standsOn, .ref a_heldOn, .ref a_holder, .ref a_standing, .int v_size])), (a_holder, .inl (cI, 365, .inl f_holder))]) [0, 2] rfl
  refine roV (As := [.int d]) (rest := []) S (f_heldBy  (by omega) (by omega) (hh)) (cwV 1 hts gX3_rankHeld_X3_heldBy rfl rfl rfl ⟨rfl, hd_X3_heldBy⟩ ⟨Nat.le_of_ble_eq_true rfl, Nat.le_of_ble_eq_true rfl⟩) hK hPc (va_recv hK.1 hPc (ci := 3) (q0 := 0) rfl rfl) rfl hl.1 rfl (Nat.le_of_ble_eq_true rfl) dX3_rankHeld_2 ⟨Nat.le_of_ble_eq_true rfl, Nat.le_of_ble_eq_true rfl⟩ (fun r_1 hw_1 => ?_)
  have hw_1 : (v_size.toInt = 0 → r_1.toInt = -1) ∧ -1 ≤ r_1.toInt ∧ (r_1.toInt < v_size.toInt ∨ r_1.toInt = -1) := hw_1
  refine lv_istore_n (lv' := [(2, .int r_1), (0, .ref h), (1, .int d)]) hx hb dX3_rankHeld_5 rfl hl (by decide) rfl (fun ls hl => ?_)
  refine lv_iload_n hx hb dX3_rankHeld_6 rfl (lv_at hl 0 rfl) ?_
  refine lv_iconst (v := (-1)) hx hb dX3_rankHeld_7 (by decide) ?_
  refine lv_icmp_ne (tgt := 15) hx hb dX3_rankHeld_8 (by decide) (fun c_2 => ?_) (fun c_2 => ?_)
  · have tc_2 := t_neq c_2
    refine lv_aload_n hx hb dX3_rankHeld_15 rfl (lv_at hl 1 rfl) ?_
    refine va_get (D := D) (ci := 3) (v := .ref a_ranks) (C := RX3) (T := TX3) (N := 7) hx hb hts in_f_rankHeld_X3 hown hK.1 hP 0 rfl rfl 1 (by decide) lk0 (fun _ h9 => h9) rfl dX3_rankHeld_16 ?_
    refine lv_iload_n hx hb dX3_rankHeld_19 rfl (lv_at hl 0 rfl) ?_
    refine va_iald hx hb hK.1 hP 1 0 rfl rfl (t_in (by omega) (by omega)) dX3_rankHeld_20 ?_
    refine lv_topi (fun y_3 ey_3 => ?_)
    exact hret y_3 _ _ (show v_size.toInt = 0 → y_3.toInt = 0 from by omega) rfl dX3_rankHeld_21
  · have tc_2 := t_eq c_2
    refine lv_iconst (v := 0) hx hb dX3_rankHeld_11 (by decide) ?_
    refine lv_goto (tgt := 21) hx hb dX3_rankHeld_12 (by decide) ?_
    exact hret 0 _ _ (show v_size.toInt = 0 → (0 : Int32).toInt = 0 from by omega) rfl dX3_rankHeld_21

theorem in_f_givesWay_X3 : ∀ w ∈ wsX30, w ∈ wsX3_givesWay := tl_X3_givesWay_X3
set_option maxHeartbeats 8000000 in
set_option maxRecDepth 100000 in
theorem f_givesWay {l : Launch} {D : va_G} {cI cZ cB : ClassId} {h a_falls a_ranks a_standsOn a_heldOn a_holder a_standing : Nat} {v_size : Int32} {f_falls f_ranks : Nat → Int32} {i j y : Int32} (hi0 : 0 ≤ i.toInt) (hi1 : i.toInt < 40) (hj0 : 0 ≤ j.toInt) (hj1 : j.toInt < 40) : Met l yX3_givesWay wsX3_givesWay ({ frames := 0, cells := 0, slots := 0, locals := 0 }) (RO D cI cZ cB [.ref h, .int i, .int j, .int y] [(h, .inr (3, [.ref a_falls, .ref a_ranks, .ref a_standsOn, .ref a_heldOn, .ref a_holder, .ref a_standing, .int v_size])), (a_falls, .inl (cI, 40, .inl f_falls)), (a_ranks, .inl (cI, 40, .inl f_ranks))]) (vp_Si (fun r : Int32 => (r.toInt = 0 ∨ r.toInt = 1))) 0 0 (fun _ => False) := by
  refine ro_ret (cc := cX3_givesWay) (maxL := 4) (ty := .boolean) (own := RX3) (by decide) rfl rfl (Nat.le_of_ble_eq_true rfl) ?_
  intro p e s m args below meth c Q S hret hP hK ls hl
  obtain ⟨hx, hb, hml, hown, hts⟩ := id S
  have hl : lv_has ls 4 [(0, .ref h), (1, .int i), (2, .int j), (3, .int y)] := hl
  have kk0 : (0 : Int32).toInt = 0 := by decide
  have kk1 : (1 : Int32).toInt = 1 := by decide
  have lk0 := hts (.fieldLink RX3 15 "AbbeyHours$Feasts" "ranks" "[I") (List.mem_cons_of_mem _ (List.mem_append_left _ (List.mem_of_getElem? (i := 0) rfl)))
  have lk1 := hts (.fieldLink RX3 11 "AbbeyHours$Feasts" "falls" "[I") (List.mem_cons_of_mem _ (List.mem_append_left _ (List.mem_of_getElem? (i := 1) rfl)))
  refine lv_aload_n hx hb dX3_givesWay_0 rfl (lv_at hl 0 rfl) ?_
  refine va_get (D := D) (ci := 3) (v := .ref a_ranks) (C := RX3) (T := TX3) (N := 7) hx hb hts in_f_givesWay_X3 hown hK.1 hP 0 rfl rfl 1 (by decide) lk0 (fun _ h9 => h9) rfl dX3_givesWay_1 ?_
  refine lv_iload_n hx hb dX3_givesWay_4 rfl (lv_at hl 1 rfl) ?_
  refine va_iald hx hb hK.1 hP 2 0 rfl rfl (t_in (by omega) (by omega)) dX3_givesWay_5 ?_
  refine lv_topi (fun y_1 ey_1 => ?_)
  refine lv_aload_n hx hb dX3_givesWay_6 rfl (lv_at hl 0 rfl) ?_
  refine va_get (D := D) (ci := 3) (v := .ref a_ranks) (C := RX3) (T := TX3) (N := 7) hx hb hts in_f_givesWay_X3 hown hK.1 hP 0 rfl rfl 1 (by decide) lk0 (fun _ h9 => h9) rfl dX3_givesWay_7 ?_
  refine lv_iload_n hx hb dX3_givesWay_10 rfl (lv_at hl 2 rfl) ?_
  refine va_iald hx hb hK.1 hP 2 0 rfl rfl (t_in (by omega) (by omega)) dX3_givesWay_11 ?_
  refine lv_topi (fun y_2 ey_2 => ?_)
  refine lv_icmp_eq (tgt := 36) hx hb dX3_givesWay_12 (by decide) (fun c_3 => ?_) (fun c_3 => ?_)
  · have tc_3 := t_eq c_3
    refine lv_aload_n hx hb dX3_givesWay_36 rfl (lv_at hl 0 rfl) ?_
    refine va_get (D := D) (ci := 3) (v := .ref a_falls) (C := RX3) (T := TX3) (N := 7) hx hb hts in_f_givesWay_X3 hown hK.1 hP 0 rfl rfl 0 (by decide) lk1 (fun _ h9 => h9) rfl dX3_givesWay_37 ?_
    refine lv_iload_n hx hb dX3_givesWay_40 rfl (lv_at hl 1 rfl) ?_
    refine va_iald hx hb hK.1 hP 1 0 rfl rfl (t_in (by omega) (by omega)) dX3_givesWay_41 ?_
    refine lv_topi (fun y_4 ey_4 => ?_)
    refine lv_iload_n hx hb dX3_givesWay_42 rfl (lv_at hl 3 rfl) ?_
    refine lv_icmp_eq (tgt := 60) hx hb dX3_givesWay_43 (by decide) (fun c_5 => ?_) (fun c_5 => ?_)
    · have tc_5 := t_eq c_5
      refine lv_iconst (v := 0) hx hb dX3_givesWay_60 (by decide) ?_
      exact hret 0 _ _ (show ((0 : Int32).toInt = 0 ∨ (0 : Int32).toInt = 1) from by omega) rfl dX3_givesWay_61
    · have tc_5 := t_neq c_5
      refine lv_aload_n hx hb dX3_givesWay_46 rfl (lv_at hl 0 rfl) ?_
      refine va_get (D := D) (ci := 3) (v := .ref a_falls) (C := RX3) (T := TX3) (N := 7) hx hb hts in_f_givesWay_X3 hown hK.1 hP 0 rfl rfl 0 (by decide) lk1 (fun _ h9 => h9) rfl dX3_givesWay_47 ?_
      refine lv_iload_n hx hb dX3_givesWay_50 rfl (lv_at hl 2 rfl) ?_
      refine va_iald hx hb hK.1 hP 1 0 rfl rfl (t_in (by omega) (by omega)) dX3_givesWay_51 ?_
      refine lv_topi (fun y_6 ey_6 => ?_)
      refine lv_iload_n hx hb dX3_givesWay_52 rfl (lv_at hl 3 rfl) ?_
      refine lv_icmp_ne (tgt := 60) hx hb dX3_givesWay_53 (by decide) (fun c_7 => ?_) (fun c_7 => ?_)
      · have tc_7 := t_neq c_7
        refine lv_iconst (v := 0) hx hb dX3_givesWay_60 (by decide) ?_
        exact hret 0 _ _ (show ((0 : Int32).toInt = 0 ∨ (0 : Int32).toInt = 1) from by omega) rfl dX3_givesWay_61
      · have tc_7 := t_eq c_7
        refine lv_iconst (v := 1) hx hb dX3_givesWay_56 (by decide) ?_
        refine lv_goto (tgt := 61) hx hb dX3_givesWay_57 (by decide) ?_
        exact hret 1 _ _ (show ((1 : Int32).toInt = 0 ∨ (1 : Int32).toInt = 1) from by omega) rfl dX3_givesWay_61
  · have tc_3 := t_neq c_3
    refine lv_aload_n hx hb dX3_givesWay_15 rfl (lv_at hl 0 rfl) ?_
    refine va_get (D := D) (ci := 3) (v := .ref a_ranks) (C := RX3) (T := TX3) (N := 7) hx hb hts in_f_givesWay_X3 hown hK.1 hP 0 rfl rfl 1 (by decide) lk0 (fun _ h9 => h9) rfl dX3_givesWay_16 ?_
    refine lv_iload_n hx hb dX3_givesWay_19 rfl (lv_at hl 1 rfl) ?_
    refine va_iald hx hb hK.1 hP 2 0 rfl rfl (t_in (by omega) (by omega)) dX3_givesWay_20 ?_
    refine lv_topi (fun y_8 ey_8 => ?_)
    refine lv_aload_n hx hb dX3_givesWay_21 rfl (lv_at hl 0 rfl) ?_
    refine va_get (D := D) (ci := 3) (v := .ref a_ranks) (C := RX3) (T := TX3) (N := 7) hx hb hts in_f_givesWay_X3 hown hK.1 hP 0 rfl rfl 1 (by decide) lk0 (fun _ h9 => h9) rfl dX3_givesWay_22 ?_
    refine lv_iload_n hx hb dX3_givesWay_25 rfl (lv_at hl 2 rfl) ?_
    refine va_iald hx hb hK.1 hP 2 0 rfl rfl (t_in (by omega) (by omega)) dX3_givesWay_26 ?_
    refine lv_topi (fun y_9 ey_9 => ?_)
    refine lv_icmp_ge (tgt := 34) hx hb dX3_givesWay_27 (by decide) (fun c_10 => ?_) (fun c_10 => ?_)
    · have tc_10 := t_le c_10
      refine lv_iconst (v := 0) hx hb dX3_givesWay_34 (by decide) ?_
      exact hret 0 _ _ (show ((0 : Int32).toInt = 0 ∨ (0 : Int32).toInt = 1) from by omega) rfl dX3_givesWay_35
    · have tc_10 := t_nle c_10
      refine lv_iconst (v := 1) hx hb dX3_givesWay_30 (by decide) ?_
      refine lv_goto (tgt := 35) hx hb dX3_givesWay_31 (by decide) ?_
      exact hret 1 _ _ (show ((1 : Int32).toInt = 0 ∨ (1 : Int32).toInt = 1) from by omega) rfl dX3_givesWay_35

theorem in_f_greatestOn_X3 : ∀ w ∈ wsX30, w ∈ wsX3_greatestOn := tl_X3_greatestOn_X3
set_option maxHeartbeats 8000000 in
set_option maxRecDepth 100000 in
theorem f_greatestOn {l : Launch} {D : va_G} {cI cZ cB : ClassId} {h a_falls a_ranks a_standsOn a_heldOn a_holder a_standing : Nat} {v_size : Int32} {f_falls f_ranks f_standsOn : Nat → Int32} {y : Int32} (hv_size0 : 0 ≤ v_size.toInt) (hv_size1 : v_size.toInt ≤ 40) : Met l yX3_greatestOn wsX3_greatestOn ({ frames := 1, cells := 0, slots := 0, locals := 23 }) (RO D cI cZ cB [.ref h, .int y] [(h, .inr (3, [.ref a_falls, .ref a_ranks, .ref a_standsOn, .ref a_heldOn, .ref a_holder, .ref a_standing, .int v_size])), (a_falls, .inl (cI, 40, .inl f_falls)), (a_ranks, .inl (cI, 40, .inl f_ranks)), (a_standsOn, .inl (cI, 40, .inl f_standsOn))]) (vp_Si (fun r : Int32 => r.toInt = -1 ∨ (0 ≤ r.toInt ∧ r.toInt < v_size.toInt))) 0 0 (fun _ => False) := by
  refine ro_ret (cc := cX3_greatestOn) (maxL := 4) (ty := .int) (own := RX3) (by decide) rfl rfl (Nat.le_of_ble_eq_true rfl) ?_
  intro p e s m args below meth c Q S hret hP hK ls hl
  obtain ⟨hx, hb, hml, hown, hts⟩ := id S
  have hl : lv_has ls 4 [(0, .ref h), (1, .int y)] := hl
  have kkm1 : (-1 : Int32).toInt = -1 := by decide
  have kk0 : (0 : Int32).toInt = 0 := by decide
  have kk1 : (1 : Int32).toInt = 1 := by decide
  have lk0 := hts (.fieldLink RX3 30 "AbbeyHours$Feasts" "size" "I") (List.mem_cons_of_mem _ (List.mem_append_left _ (List.mem_of_getElem? (i := 0) rfl)))
  have lk1 := hts (.fieldLink RX3 18 "AbbeyHours$Feasts" "standsOn" "[I") (List.mem_cons_of_mem _ (List.mem_append_left _ (List.mem_of_getElem? (i := 1) rfl)))
  refine lv_iconst (v := (-1)) hx hb dX3_greatestOn_0 (by decide) ?_
  refine lv_istore_n (lv' := [(2, .int (-1)), (0, .ref h), (1, .int y)]) hx hb dX3_greatestOn_1 rfl hl (by decide) rfl (fun ls hl => ?_)
  refine lv_iconst (v := 0) hx hb dX3_greatestOn_2 (by decide) ?_
  refine lv_istore_n (lv' := [(3, .int 0), (2, .int (-1)), (0, .ref h), (1, .int y)]) hx hb dX3_greatestOn_3 rfl hl (by decide) rfl (fun ls hl => ?_)
  have loop4 : ∀ (fuel : Nat) (a : Int32) (j : Int32), v_size.toInt - j.toInt < (fuel : Int) → (0 ≤ j.toInt) → (j.toInt ≤ v_size.toInt) → (a.toInt = -1 ∨ (0 ≤ a.toInt ∧ a.toInt < j.toInt)) → ∀ ls : Array Slot, lv_has ls 4 [(3, .int j), (2, .int a), (0, .ref h), (1, .int y)] → W p l e ({ frames := 1, cells := 0, slots := 0, locals := 23 } : Room) s m args below meth c s.heap [] 0 0 Q (F0 m 4 ls []) := by
    intro fuel
    induction fuel with
    | zero =>
      intro a j hmu hj0 hj1 ha ls hl
      exfalso; omega
    | succ fuel ih4 =>
      intro a j hmu hj0 hj1 ha ls hl
      refine lv_iload_n hx hb dX3_greatestOn_4 rfl (lv_at hl 0 rfl) ?_
      refine lv_aload_n hx hb dX3_greatestOn_5 rfl (lv_at hl 2 rfl) ?_
      refine va_get (D := D) (ci := 3) (v := .int v_size) (C := RX3) (T := TX3) (N := 7) hx hb hts in_f_greatestOn_X3 hown hK.1 hP 0 rfl rfl 6 (by decide) lk0 (fun _ h9 => h9) rfl dX3_greatestOn_6 ?_
      refine lv_icmp_ge (tgt := 45) hx hb dX3_greatestOn_9 (by decide) (fun c_1 => ?_) (fun c_1 => ?_)
      · have tc_1 := t_le c_1
        refine lv_iload_n hx hb dX3_greatestOn_45 rfl (lv_at hl 1 rfl) ?_
        exact hret a _ _ (show a.toInt = -1 ∨ (0 ≤ a.toInt ∧ a.toInt < v_size.toInt) from by omega) rfl dX3_greatestOn_46
      · have tc_1 := t_nle c_1
        refine lv_aload_n hx hb dX3_greatestOn_12 rfl (lv_at hl 2 rfl) ?_
        refine va_get (D := D) (ci := 3) (v := .ref a_standsOn) (C := RX3) (T := TX3) (N := 7) hx hb hts in_f_greatestOn_X3 hown hK.1 hP 0 rfl rfl 2 (by decide) lk1 (fun _ h9 => h9) rfl dX3_greatestOn_13 ?_
        refine lv_iload_n hx hb dX3_greatestOn_16 rfl (lv_at hl 0 rfl) ?_
        refine va_iald hx hb hK.1 hP 3 0 rfl rfl (t_in (by omega) (by omega)) dX3_greatestOn_17 ?_
        refine lv_topi (fun y_2 ey_2 => ?_)
        refine lv_iload_n hx hb dX3_greatestOn_18 rfl (lv_at hl 3 rfl) ?_
        refine lv_icmp_ne (tgt := 39) hx hb dX3_greatestOn_19 (by decide) (fun c_3 => ?_) (fun c_3 => ?_)
        · have tc_3 := t_neq c_3
          obtain ⟨x_4, ex_4⟩ : ∃ y : Int32, y = j + 1 := ⟨_, rfl⟩
          refine lv_iinc (v := x_4) (lv' := [(3, .int x_4), (2, .int a), (0, .ref h), (1, .int y)]) hx hb dX3_greatestOn_39 hl (k := 0) rfl (by rw [ex_4]; rfl) (by decide) rfl (fun ls hl => ?_)
          first | have tx_4 := t_add ex_4 (by omega) (by omega) | skip
          refine lv_goto (tgt := 4) hx hb dX3_greatestOn_42 (by decide) ?_
          exact ih4 a x_4 (by omega) (by omega) (by omega) (by omega) ls (lv_sub hl [0, 1, 2, 3] rfl)
        · have tc_3 := t_eq c_3
          refine lv_iload_n hx hb dX3_greatestOn_22 rfl (lv_at hl 1 rfl) ?_
          refine lv_iconst (v := (-1)) hx hb dX3_greatestOn_23 (by decide) ?_
          refine lv_icmp_eq (tgt := 37) hx hb dX3_greatestOn_24 (by decide) (fun c_5 => ?_) (fun c_5 => ?_)
          · have tc_5 := t_eq c_5
            refine lv_iload_n hx hb dX3_greatestOn_37 rfl (lv_at hl 0 rfl) ?_
            refine lv_istore_n (lv' := [(2, .int j), (3, .int j), (0, .ref h), (1, .int y)]) hx hb dX3_greatestOn_38 rfl hl (by decide) rfl (fun ls hl => ?_)
            obtain ⟨x_6, ex_6⟩ : ∃ y : Int32, y = j + 1 := ⟨_, rfl⟩
            refine lv_iinc (v := x_6) (lv' := [(3, .int x_6), (2, .int j), (0, .ref h), (1, .int y)]) hx hb dX3_greatestOn_39 hl (k := 1) rfl (by rw [ex_6]; rfl) (by decide) rfl (fun ls hl => ?_)
            first | have tx_6 := t_add ex_6 (by omega) (by omega) | skip
            refine lv_goto (tgt := 4) hx hb dX3_greatestOn_42 (by decide) ?_
            exact ih4 j x_6 (by omega) (by omega) (by omega) (by omega) ls (lv_sub hl [0, 1, 2, 3] rfl)
          · have tc_5 := t_neq c_5
            refine lv_aload_n hx hb dX3_greatestOn_27 rfl (lv_at hl 2 rfl) ?_
            refine lv_iload_n hx hb dX3_greatestOn_28 rfl (lv_at hl 1 rfl) ?_
            refine lv_iload_n hx hb dX3_greatestOn_29 rfl (lv_at hl 0 rfl) ?_
            refine lv_iload_n hx hb dX3_greatestOn_30 rfl (lv_at hl 3 rfl) ?_
            have hPc := hP.sub (ws' := [(h, .inr (3, [.ref a_falls, .ref a_ranks, .ref a_standsOn, .ref a_heldOn, .ref a_holder, .ref a_standing, .int v_size])), (a_falls, .inl (cI, 40, .inl f_falls)), (a_ranks, .inl (cI, 40, .inl f_ranks))]) [0, 1, 2] rfl
            refine roV (As := [.int a, .int j, .int y]) (rest := []) S (f_givesWay  (by omega) (by omega) (by omega) (by omega)) (cwV 3 hts gX3_greatestOn_X3_givesWay rfl rfl rfl ⟨rfl, hd_X3_givesWay⟩ ⟨Nat.le_of_ble_eq_true rfl, Nat.le_of_ble_eq_true rfl⟩) hK hPc (va_recv hK.1 hPc (ci := 3) (q0 := 0) rfl rfl) rfl hl.1 rfl (Nat.le_of_ble_eq_true rfl) dX3_greatestOn_31 ⟨Nat.le_of_ble_eq_true rfl, Nat.le_of_ble_eq_true rfl⟩ (fun r_7 hw_7 => ?_)
            have hw_7 : (r_7.toInt = 0 ∨ r_7.toInt = 1) := hw_7
            refine lv_if_eq (tgt := 39) hx hb dX3_greatestOn_34 (by decide) (fun c_8 => ?_) (fun c_8 => ?_)
            · have tc_8 := t_eq c_8
              obtain ⟨x_9, ex_9⟩ : ∃ y : Int32, y = j + 1 := ⟨_, rfl⟩
              refine lv_iinc (v := x_9) (lv' := [(3, .int x_9), (2, .int a), (0, .ref h), (1, .int y)]) hx hb dX3_greatestOn_39 hl (k := 0) rfl (by rw [ex_9]; rfl) (by decide) rfl (fun ls hl => ?_)
              first | have tx_9 := t_add ex_9 (by omega) (by omega) | skip
              refine lv_goto (tgt := 4) hx hb dX3_greatestOn_42 (by decide) ?_
              exact ih4 a x_9 (by omega) (by omega) (by omega) (by omega) ls (lv_sub hl [0, 1, 2, 3] rfl)
            · have tc_8 := t_neq c_8
              refine lv_iload_n hx hb dX3_greatestOn_37 rfl (lv_at hl 0 rfl) ?_
              refine lv_istore_n (lv' := [(2, .int j), (3, .int j), (0, .ref h), (1, .int y)]) hx hb dX3_greatestOn_38 rfl hl (by decide) rfl (fun ls hl => ?_)
              obtain ⟨x_10, ex_10⟩ : ∃ y : Int32, y = j + 1 := ⟨_, rfl⟩
              refine lv_iinc (v := x_10) (lv' := [(3, .int x_10), (2, .int j), (0, .ref h), (1, .int y)]) hx hb dX3_greatestOn_39 hl (k := 1) rfl (by rw [ex_10]; rfl) (by decide) rfl (fun ls hl => ?_)
              first | have tx_10 := t_add ex_10 (by omega) (by omega) | skip
              refine lv_goto (tgt := 4) hx hb dX3_greatestOn_42 (by decide) ?_
              exact ih4 j x_10 (by omega) (by omega) (by omega) (by omega) ls (lv_sub hl [0, 1, 2, 3] rfl)
  exact loop4 ((v_size.toInt - (0 : Int32).toInt).toNat + 1) (-1) 0 (by omega) (by omega) (by omega) (by omega) ls (lv_sub hl [0, 1, 2, 3] rfl)

theorem in_f_stand_X3 : ∀ w ∈ wsX30, w ∈ wsX3_stand := tl_X3_stand_X3
set_option maxHeartbeats 8000000 in
set_option maxRecDepth 100000 in
theorem f_stand {l : Launch} {D : va_G} {cI cZ cB : ClassId} {sz : Nat} {h a_falls a_ranks a_standsOn a_heldOn a_holder a_standing : Nat} {v_size : Int32} {f_standsOn f_standing : Nat → Int32} {i y : Int32} (hi0 : 0 ≤ i.toInt) (hi1 : i.toInt < 40) (hy0 : 0 ≤ y.toInt) : Met l yX3_stand wsX3_stand ({ frames := 0, cells := 0, slots := 0, locals := 0 }) (RW D cI cZ cB [.ref h, .int i, .int y] sz [(h, .inr (3, [.ref a_falls, .ref a_ranks, .ref a_standsOn, .ref a_heldOn, .ref a_holder, .ref a_standing, .int v_size])), (a_standsOn, .inl (cI, 40, .inl f_standsOn)), (a_standing, .inl (cI, 365, .inl f_standing))]) (va_Qv (fun u : (Nat → Int32) × (Nat → Int32) => True) (BW D [(h, .inr (3, [.ref a_falls, .ref a_ranks, .ref a_standsOn, .ref a_heldOn, .ref a_holder, .ref a_standing, .int v_size])), (a_standsOn, .inl (cI, 40, .inl f_standsOn)), (a_standing, .inl (cI, 365, .inl f_standing))] sz (fun u : (Nat → Int32) × (Nat → Int32) => [(h, .inr (3, [.ref a_falls, .ref a_ranks, .ref a_standsOn, .ref a_heldOn, .ref a_holder, .ref a_standing, .int v_size])), (a_standsOn, .inl (cI, 40, .inl u.1)), (a_standing, .inl (cI, 365, .inl u.2))])) (va_A [(h, .inr (3, [.ref a_falls, .ref a_ranks, .ref a_standsOn, .ref a_heldOn, .ref a_holder, .ref a_standing, .int v_size])), (a_standsOn, .inl (cI, 40, .inl f_standsOn)), (a_standing, .inl (cI, 365, .inl f_standing))] sz)) 0 0 (va_A [(h, .inr (3, [.ref a_falls, .ref a_ranks, .ref a_standsOn, .ref a_heldOn, .ref a_holder, .ref a_standing, .int v_size])), (a_standsOn, .inl (cI, 40, .inl f_standsOn)), (a_standing, .inl (cI, 365, .inl f_standing))] sz) := by
  refine rw_retv (cc := cX3_stand) (maxL := 3) (own := RX3) (by decide) rfl rfl (Nat.le_of_ble_eq_true rfl) ?_
  intro p e s m args below meth c Q A S hin hret hP hK hD hA hS ls hl
  obtain ⟨hx, hb, hml, hown, hts⟩ := id S
  have hl : lv_has ls 3 [(0, .ref h), (1, .int i), (2, .int y)] := hl
  have kk0 : (0 : Int32).toInt = 0 := by decide
  have kk1 : (1 : Int32).toInt = 1 := by decide
  have kk365 : (365 : Int32).toInt = 365 := by decide
  have lk0 := hts (.fieldLink RX3 18 "AbbeyHours$Feasts" "standsOn" "[I") (List.mem_cons_of_mem _ (List.mem_append_left _ (List.mem_of_getElem? (i := 0) rfl)))
  have lk1 := hts (.fieldLink RX3 27 "AbbeyHours$Feasts" "standing" "[I") (List.mem_cons_of_mem _ (List.mem_append_left _ (List.mem_of_getElem? (i := 1) rfl)))
  refine lv_aload_n hx hb dX3_stand_0 rfl (lv_at hl 0 rfl) ?_
  refine va_get (D := D) (ci := 3) (v := .ref a_standsOn) (C := RX3) (T := TX3) (N := 7) hx hb hts in_f_stand_X3 hown hK.1 hP 0 rfl rfl 2 (by decide) lk0 (fun _ h9 => h9) rfl dX3_stand_1 ?_
  refine lv_iload_n hx hb dX3_stand_4 rfl (lv_at hl 1 rfl) ?_
  refine lv_iload_n hx hb dX3_stand_5 rfl (lv_at hl 2 rfl) ?_
  refine va_iast hx hb hK.1 hP hD hS 1 0 rfl rfl (t_in (by omega) (by omega)) dX3_stand_6 (fun H locs hP hD hS => ?_)
  obtain ⟨g_1, eg_1⟩ : ∃ z : Nat → Int32, z = upd f_standsOn ((i : Int32).toNatClampNeg) y := ⟨_, rfl⟩
  rw [← eg_1] at hP hD
  have hP : va_P D vwCl [(h, .inr (3, [.ref a_falls, .ref a_ranks, .ref a_standsOn, .ref a_heldOn, .ref a_holder, .ref a_standing, .int v_size])), (a_standsOn, .inl (cI, 40, .inl g_1)), (a_standing, .inl (cI, 365, .inl f_standing))] H := hP
  have hD := asD hP hD
  refine lv_iload_n hx hb dX3_stand_7 rfl (lv_at hl 2 rfl) ?_
  refine lv_sipush (v := 365) hx hb dX3_stand_8 (by decide) ?_
  refine lv_icmp_ge (tgt := 24) hx hb dX3_stand_11 (by decide) (fun c_2 => ?_) (fun c_2 => ?_)
  · have tc_2 := t_le c_2
    exact hret (g_1, f_standing) _ _ _ _ (show True from trivial) (hP.sub [0, 1, 2] rfl) (hD.sub [0, 1, 2] (by decide +kernel) rfl) hS dX3_stand_24
  · have tc_2 := t_nle c_2
    refine lv_aload_n hx hb dX3_stand_14 rfl (lv_at hl 0 rfl) ?_
    refine va_get (D := D) (ci := 3) (v := .ref a_standing) (C := RX3) (T := TX3) (N := 7) hx hb hts in_f_stand_X3 hown hK.1 hP 0 rfl rfl 5 (by decide) lk1 (fun _ h9 => h9) rfl dX3_stand_15 ?_
    refine lv_iload_n hx hb dX3_stand_18 rfl (lv_at hl 2 rfl) ?_
    refine lv_dup2_11 hx hb dX3_stand_19 rfl rfl ?_
    refine va_iald hx hb hK.1 hP 2 0 rfl rfl (t_in (by omega) (by omega)) dX3_stand_20 ?_
    refine lv_topi (fun y_3 ey_3 => ?_)
    refine lv_iconst (v := 1) hx hb dX3_stand_21 (by decide) ?_
    refine lv_iadd hx hb dX3_stand_22 ?_
    refine lv_topi (fun x_4 ex_4 => ?_)
    refine va_iast hx hb hK.1 hP hD hS 2 0 rfl rfl (t_in (by omega) (by omega)) dX3_stand_23 (fun H locs hP hD hS => ?_)
    obtain ⟨g_5, eg_5⟩ : ∃ z : Nat → Int32, z = upd f_standing ((y : Int32).toNatClampNeg) x_4 := ⟨_, rfl⟩
    rw [← eg_5] at hP hD
    have hP : va_P D vwCl [(h, .inr (3, [.ref a_falls, .ref a_ranks, .ref a_standsOn, .ref a_heldOn, .ref a_holder, .ref a_standing, .int v_size])), (a_standsOn, .inl (cI, 40, .inl g_1)), (a_standing, .inl (cI, 365, .inl g_5))] H := hP
    have hD := asD hP hD
    exact hret (g_1, g_5) _ _ _ _ (show True from trivial) (hP.sub [0, 1, 2] rfl) (hD.sub [0, 1, 2] (by decide +kernel) rfl) hS dX3_stand_24

theorem in_f_hold_X3 : ∀ w ∈ wsX30, w ∈ wsX3_hold := tl_X3_hold_X3
set_option maxHeartbeats 8000000 in
set_option maxRecDepth 100000 in
theorem f_hold {l : Launch} {D : va_G} {cI cZ cB : ClassId} {sz : Nat} {h a_falls a_ranks a_standsOn a_heldOn a_holder a_standing : Nat} {v_size : Int32} {f_falls f_ranks f_standsOn f_heldOn f_holder f_standing : Nat → Int32} {y : Int32} (hv_size0 : 0 ≤ v_size.toInt) (hv_size1 : v_size.toInt ≤ 40) (hy0 : 0 ≤ y.toInt) (hy1 : y.toInt < 365) (hh : InR f_holder 365 (-1) v_size.toInt) : Met l yX3_hold wsX3_hold ({ frames := 2, cells := 0, slots := 0, locals := 46 }) (RW D cI cZ cB [.ref h, .int y] sz [(h, .inr (3, [.ref a_falls, .ref a_ranks, .ref a_standsOn, .ref a_heldOn, .ref a_holder, .ref a_standing, .int v_size])), (a_falls, .inl (cI, 40, .inl f_falls)), (a_ranks, .inl (cI, 40, .inl f_ranks)), (a_standsOn, .inl (cI, 40, .inl f_standsOn)), (a_heldOn, .inl (cI, 40, .inl f_heldOn)), (a_holder, .inl (cI, 365, .inl f_holder)), (a_standing, .inl (cI, 365, .inl f_standing))]) (va_Qv (fun u : (Nat → Int32) × (Nat → Int32) × (Nat → Int32) × (Nat → Int32) => InR u.2.2.1 365 (-1) v_size.toInt) (BW D [(h, .inr (3, [.ref a_falls, .ref a_ranks, .ref a_standsOn, .ref a_heldOn, .ref a_holder, .ref a_standing, .int v_size])), (a_falls, .inl (cI, 40, .inl f_falls)), (a_ranks, .inl (cI, 40, .inl f_ranks)), (a_standsOn, .inl (cI, 40, .inl f_standsOn)), (a_heldOn, .inl (cI, 40, .inl f_heldOn)), (a_holder, .inl (cI, 365, .inl f_holder)), (a_standing, .inl (cI, 365, .inl f_standing))] sz (fun u : (Nat → Int32) × (Nat → Int32) × (Nat → Int32) × (Nat → Int32) => [(h, .inr (3, [.ref a_falls, .ref a_ranks, .ref a_standsOn, .ref a_heldOn, .ref a_holder, .ref a_standing, .int v_size])), (a_falls, .inl (cI, 40, .inl f_falls)), (a_ranks, .inl (cI, 40, .inl f_ranks)), (a_standsOn, .inl (cI, 40, .inl u.1)), (a_heldOn, .inl (cI, 40, .inl u.2.1)), (a_holder, .inl (cI, 365, .inl u.2.2.1)), (a_standing, .inl (cI, 365, .inl u.2.2.2))])) (va_A [(h, .inr (3, [.ref a_falls, .ref a_ranks, .ref a_standsOn, .ref a_heldOn, .ref a_holder, .ref a_standing, .int v_size])), (a_falls, .inl (cI, 40, .inl f_falls)), (a_ranks, .inl (cI, 40, .inl f_ranks)), (a_standsOn, .inl (cI, 40, .inl f_standsOn)), (a_heldOn, .inl (cI, 40, .inl f_heldOn)), (a_holder, .inl (cI, 365, .inl f_holder)), (a_standing, .inl (cI, 365, .inl f_standing))] sz)) 0 0 (va_A [(h, .inr (3, [.ref a_falls, .ref a_ranks, .ref a_standsOn, .ref a_heldOn, .ref a_holder, .ref a_standing, .int v_size])), (a_falls, .inl (cI, 40, .inl f_falls)), (a_ranks, .inl (cI, 40, .inl f_ranks)), (a_standsOn, .inl (cI, 40, .inl f_standsOn)), (a_heldOn, .inl (cI, 40, .inl f_heldOn)), (a_holder, .inl (cI, 365, .inl f_holder)), (a_standing, .inl (cI, 365, .inl f_standing))] sz) := by
  refine rw_retv (cc := cX3_hold) (maxL := 4) (own := RX3) (by decide) rfl rfl (Nat.le_of_ble_eq_true rfl) ?_
  intro p e s m args below meth c Q A S hin hret hP hK hD hA hS ls hl
  obtain ⟨hx, hb, hml, hown, hts⟩ := id S
  have hl : lv_has ls 4 [(0, .ref h), (1, .int y)] := hl
  have kkm1 : (-1 : Int32).toInt = -1 := by decide
  have kk0 : (0 : Int32).toInt = 0 := by decide
  have kk1 : (1 : Int32).toInt = 1 := by decide
  have kk2 : (2 : Int32).toInt = 2 := by decide
  have lk0 := hts (.fieldLink RX3 24 "AbbeyHours$Feasts" "holder" "[I") (List.mem_cons_of_mem _ (List.mem_append_left _ (List.mem_of_getElem? (i := 0) rfl)))
  have lk1 := hts (.fieldLink RX3 21 "AbbeyHours$Feasts" "heldOn" "[I") (List.mem_cons_of_mem _ (List.mem_append_left _ (List.mem_of_getElem? (i := 1) rfl)))
  have lk2 := hts (.fieldLink RX3 30 "AbbeyHours$Feasts" "size" "I") (List.mem_cons_of_mem _ (List.mem_append_left _ (List.mem_of_getElem? (i := 2) rfl)))
  have lk3 := hts (.fieldLink RX3 18 "AbbeyHours$Feasts" "standsOn" "[I") (List.mem_cons_of_mem _ (List.mem_append_left _ (List.mem_of_getElem? (i := 3) rfl)))
  have lk4 := hts (.fieldLink RX3 15 "AbbeyHours$Feasts" "ranks" "[I") (List.mem_cons_of_mem _ (List.mem_append_left _ (List.mem_of_getElem? (i := 4) rfl)))
  refine lv_aload_n hx hb dX3_hold_0 rfl (lv_at hl 0 rfl) ?_
  refine lv_iload_n hx hb dX3_hold_1 rfl (lv_at hl 1 rfl) ?_
  have hPc := hP.sub (ws' := [(h, .inr (3, [.ref a_falls, .ref a_ranks, .ref a_standsOn, .ref a_heldOn, .ref a_holder, .ref a_standing, .int v_size])), (a_falls, .inl (cI, 40, .inl f_falls)), (a_ranks, .inl (cI, 40, .inl f_ranks)), (a_standsOn, .inl (cI, 40, .inl f_standsOn))]) [0, 1, 2, 3] rfl
  refine roV (As := [.int y]) (rest := []) S (f_greatestOn  (by omega) (by omega)) (cwV 1 hts gX3_hold_X3_greatestOn rfl rfl rfl ⟨rfl, hd_X3_greatestOn⟩ ⟨Nat.le_of_ble_eq_true rfl, Nat.le_of_ble_eq_true rfl⟩) hK hPc (va_recv hK.1 hPc (ci := 3) (q0 := 0) rfl rfl) rfl hl.1 rfl (Nat.le_of_ble_eq_true rfl) dX3_hold_2 ⟨Nat.le_of_ble_eq_true rfl, Nat.le_of_ble_eq_true rfl⟩ (fun r_1 hw_1 => ?_)
  have hw_1 : r_1.toInt = -1 ∨ (0 ≤ r_1.toInt ∧ r_1.toInt < v_size.toInt) := hw_1
  refine lv_istore_n (lv' := [(2, .int r_1), (0, .ref h), (1, .int y)]) hx hb dX3_hold_5 rfl hl (by decide) rfl (fun ls hl => ?_)
  refine lv_iload_n hx hb dX3_hold_6 rfl (lv_at hl 0 rfl) ?_
  refine lv_iconst (v := (-1)) hx hb dX3_hold_7 (by decide) ?_
  refine lv_icmp_ne (tgt := 12) hx hb dX3_hold_8 (by decide) (fun c_2 => ?_) (fun c_2 => ?_)
  · have tc_2 := t_neq c_2
    refine lv_aload_n hx hb dX3_hold_12 rfl (lv_at hl 1 rfl) ?_
    refine va_get (D := D) (ci := 3) (v := .ref a_holder) (C := RX3) (T := TX3) (N := 7) hx hb hts in_f_hold_X3 hown hK.1 hP 0 rfl rfl 4 (by decide) lk0 (fun _ h9 => h9) rfl dX3_hold_13 ?_
    refine lv_iload_n hx hb dX3_hold_16 rfl (lv_at hl 2 rfl) ?_
    refine lv_iload_n hx hb dX3_hold_17 rfl (lv_at hl 0 rfl) ?_
    refine va_iast hx hb hK.1 hP hD hS 5 0 rfl rfl (t_in (by omega) (by omega)) dX3_hold_18 (fun H locs hP hD hS => ?_)
    obtain ⟨gh, egh⟩ : ∃ z : Nat → Int32, z = upd f_holder ((y : Int32).toNatClampNeg) r_1 := ⟨_, rfl⟩
    rw [← egh] at hP hD
    have hP : va_P D vwCl [(h, .inr (3, [.ref a_falls, .ref a_ranks, .ref a_standsOn, .ref a_heldOn, .ref a_holder, .ref a_standing, .int v_size])), (a_falls, .inl (cI, 40, .inl f_falls)), (a_ranks, .inl (cI, 40, .inl f_ranks)), (a_standsOn, .inl (cI, 40, .inl f_standsOn)), (a_heldOn, .inl (cI, 40, .inl f_heldOn)), (a_holder, .inl (cI, 365, .inl gh)), (a_standing, .inl (cI, 365, .inl f_standing))] H := hP
    have hD := asD hP hD
    have hh2 : InR gh 365 (-1) v_size.toInt := by rw [egh]; exact hh.put (by omega) (by omega)
    refine lv_aload_n hx hb dX3_hold_19 rfl (lv_at hl 1 rfl) ?_
    refine va_get (D := D) (ci := 3) (v := .ref a_heldOn) (C := RX3) (T := TX3) (N := 7) hx hb hts in_f_hold_X3 hown hK.1 hP 0 rfl rfl 3 (by decide) lk1 (fun _ h9 => h9) rfl dX3_hold_20 ?_
    refine lv_iload_n hx hb dX3_hold_23 rfl (lv_at hl 0 rfl) ?_
    refine lv_iload_n hx hb dX3_hold_24 rfl (lv_at hl 2 rfl) ?_
    refine va_iast hx hb hK.1 hP hD hS 4 0 rfl rfl (t_in (by omega) (by omega)) dX3_hold_25 (fun H locs hP hD hS => ?_)
    obtain ⟨g_4, eg_4⟩ : ∃ z : Nat → Int32, z = upd f_heldOn ((r_1 : Int32).toNatClampNeg) y := ⟨_, rfl⟩
    rw [← eg_4] at hP hD
    have hP : va_P D vwCl [(h, .inr (3, [.ref a_falls, .ref a_ranks, .ref a_standsOn, .ref a_heldOn, .ref a_holder, .ref a_standing, .int v_size])), (a_falls, .inl (cI, 40, .inl f_falls)), (a_ranks, .inl (cI, 40, .inl f_ranks)), (a_standsOn, .inl (cI, 40, .inl f_standsOn)), (a_heldOn, .inl (cI, 40, .inl g_4)), (a_holder, .inl (cI, 365, .inl gh)), (a_standing, .inl (cI, 365, .inl f_standing))] H := hP
    have hD := asD hP hD
    refine lv_iconst (v := 0) hx hb dX3_hold_26 (by decide) ?_
    refine lv_istore_n (lv' := [(3, .int 0), (2, .int r_1), (0, .ref h), (1, .int y)]) hx hb dX3_hold_27 rfl hl (by decide) rfl (fun ls hl => ?_)
    have loop28 : ∀ (fuel : Nat) (j : Int32) (fs : Nat → Int32) (fg : Nat → Int32), v_size.toInt - j.toInt < (fuel : Int) → (0 ≤ j.toInt) → (j.toInt ≤ v_size.toInt) → ∀ (H : Heap) (locs : List Loc), va_P D vwCl [(h, .inr (3, [.ref a_falls, .ref a_ranks, .ref a_standsOn, .ref a_heldOn, .ref a_holder, .ref a_standing, .int v_size])), (a_falls, .inl (cI, 40, .inl f_falls)), (a_ranks, .inl (cI, 40, .inl f_ranks)), (a_standsOn, .inl (cI, 40, .inl fs)), (a_heldOn, .inl (cI, 40, .inl g_4)), (a_holder, .inl (cI, 365, .inl gh)), (a_standing, .inl (cI, 365, .inl fg))] H → va_D A [(h, .inr (3, [.ref a_falls, .ref a_ranks, .ref a_standsOn, .ref a_heldOn, .ref a_holder, .ref a_standing, .int v_size])), (a_falls, .inl (cI, 40, .inl f_falls)), (a_ranks, .inl (cI, 40, .inl f_ranks)), (a_standsOn, .inl (cI, 40, .inl fs)), (a_heldOn, .inl (cI, 40, .inl g_4)), (a_holder, .inl (cI, 365, .inl gh)), (a_standing, .inl (cI, 365, .inl fg))] → va_S A s.heap H locs → ∀ ls : Array Slot, lv_has ls 4 [(3, .int j), (2, .int r_1), (0, .ref h), (1, .int y)] → W p l e ({ frames := 2, cells := 0, slots := 0, locals := 46 } : Room) s m args below meth c H locs 0 0 Q (F0 m 28 ls []) := by
      intro fuel
      induction fuel with
      | zero =>
        intro j fs fg hmu hj0 hj1 H locs hP hD hS ls hl
        exfalso; omega
      | succ fuel ih28 =>
        intro j fs fg hmu hj0 hj1 H locs hP hD hS ls hl
        refine lv_iload_n hx hb dX3_hold_28 rfl (lv_at hl 0 rfl) ?_
        refine lv_aload_n hx hb dX3_hold_29 rfl (lv_at hl 2 rfl) ?_
        refine va_get (D := D) (ci := 3) (v := .int v_size) (C := RX3) (T := TX3) (N := 7) hx hb hts in_f_hold_X3 hown hK.1 hP 0 rfl rfl 6 (by decide) lk2 (fun _ h9 => h9) rfl dX3_hold_30 ?_
        refine lv_icmp_ge (tgt := 75) hx hb dX3_hold_33 (by decide) (fun c_5 => ?_) (fun c_5 => ?_)
        · have tc_5 := t_le c_5
          exact hret (fs, g_4, gh, fg) _ _ _ _ (show InR gh 365 (-1) v_size.toInt from hh2) (hP.sub [0, 1, 2, 3, 4, 5, 6] rfl) (hD.sub [0, 1, 2, 3, 4, 5, 6] (by decide +kernel) rfl) hS dX3_hold_75
        · have tc_5 := t_nle c_5
          refine lv_iload_n hx hb dX3_hold_36 rfl (lv_at hl 0 rfl) ?_
          refine lv_iload_n hx hb dX3_hold_37 rfl (lv_at hl 1 rfl) ?_
          refine lv_icmp_eq (tgt := 69) hx hb dX3_hold_38 (by decide) (fun c_6 => ?_) (fun c_6 => ?_)
          · have tc_6 := t_eq c_6
            obtain ⟨x_7, ex_7⟩ : ∃ y : Int32, y = j + 1 := ⟨_, rfl⟩
            refine lv_iinc (v := x_7) (lv' := [(3, .int x_7), (2, .int r_1), (0, .ref h), (1, .int y)]) hx hb dX3_hold_69 hl (k := 0) rfl (by rw [ex_7]; rfl) (by decide) rfl (fun ls hl => ?_)
            first | have tx_7 := t_add ex_7 (by omega) (by omega) | skip
            refine lv_goto (tgt := 28) hx hb dX3_hold_72 (by decide) ?_
            exact ih28 x_7 fs fg (by omega) (by omega) (by omega) _ _ hP hD hS ls (lv_sub hl [0, 1, 2, 3] rfl)
          · have tc_6 := t_neq c_6
            refine lv_aload_n hx hb dX3_hold_41 rfl (lv_at hl 2 rfl) ?_
            refine va_get (D := D) (ci := 3) (v := .ref a_standsOn) (C := RX3) (T := TX3) (N := 7) hx hb hts in_f_hold_X3 hown hK.1 hP 0 rfl rfl 2 (by decide) lk3 (fun _ h9 => h9) rfl dX3_hold_42 ?_
            refine lv_iload_n hx hb dX3_hold_45 rfl (lv_at hl 0 rfl) ?_
            refine va_iald hx hb hK.1 hP 3 0 rfl rfl (t_in (by omega) (by omega)) dX3_hold_46 ?_
            refine lv_topi (fun y_8 ey_8 => ?_)
            refine lv_iload_n hx hb dX3_hold_47 rfl (lv_at hl 3 rfl) ?_
            refine lv_icmp_ne (tgt := 69) hx hb dX3_hold_48 (by decide) (fun c_9 => ?_) (fun c_9 => ?_)
            · have tc_9 := t_neq c_9
              obtain ⟨x_10, ex_10⟩ : ∃ y : Int32, y = j + 1 := ⟨_, rfl⟩
              refine lv_iinc (v := x_10) (lv' := [(3, .int x_10), (2, .int r_1), (0, .ref h), (1, .int y)]) hx hb dX3_hold_69 hl (k := 0) rfl (by rw [ex_10]; rfl) (by decide) rfl (fun ls hl => ?_)
              first | have tx_10 := t_add ex_10 (by omega) (by omega) | skip
              refine lv_goto (tgt := 28) hx hb dX3_hold_72 (by decide) ?_
              exact ih28 x_10 fs fg (by omega) (by omega) (by omega) _ _ hP hD hS ls (lv_sub hl [0, 1, 2, 3] rfl)
            · have tc_9 := t_eq c_9
              refine lv_aload_n hx hb dX3_hold_51 rfl (lv_at hl 2 rfl) ?_
              refine va_get (D := D) (ci := 3) (v := .ref a_ranks) (C := RX3) (T := TX3) (N := 7) hx hb hts in_f_hold_X3 hown hK.1 hP 0 rfl rfl 1 (by decide) lk4 (fun _ h9 => h9) rfl dX3_hold_52 ?_
              refine lv_iload_n hx hb dX3_hold_55 rfl (lv_at hl 0 rfl) ?_
              refine va_iald hx hb hK.1 hP 2 0 rfl rfl (t_in (by omega) (by omega)) dX3_hold_56 ?_
              refine lv_topi (fun y_11 ey_11 => ?_)
              refine lv_iconst (v := 2) hx hb dX3_hold_57 (by decide) ?_
              refine lv_icmp_lt (tgt := 69) hx hb dX3_hold_58 (by decide) (fun c_12 => ?_) (fun c_12 => ?_)
              · have tc_12 := t_lt c_12
                obtain ⟨x_13, ex_13⟩ : ∃ y : Int32, y = j + 1 := ⟨_, rfl⟩
                refine lv_iinc (v := x_13) (lv' := [(3, .int x_13), (2, .int r_1), (0, .ref h), (1, .int y)]) hx hb dX3_hold_69 hl (k := 0) rfl (by rw [ex_13]; rfl) (by decide) rfl (fun ls hl => ?_)
                first | have tx_13 := t_add ex_13 (by omega) (by omega) | skip
                refine lv_goto (tgt := 28) hx hb dX3_hold_72 (by decide) ?_
                exact ih28 x_13 fs fg (by omega) (by omega) (by omega) _ _ hP hD hS ls (lv_sub hl [0, 1, 2, 3] rfl)
              · have tc_12 := t_nlt c_12
                refine lv_aload_n hx hb dX3_hold_61 rfl (lv_at hl 2 rfl) ?_
                refine lv_iload_n hx hb dX3_hold_62 rfl (lv_at hl 0 rfl) ?_
                refine lv_iload_n hx hb dX3_hold_63 rfl (lv_at hl 3 rfl) ?_
                refine lv_iconst (v := 1) hx hb dX3_hold_64 (by decide) ?_
                refine lv_iadd hx hb dX3_hold_65 ?_
                refine lv_topi (fun x_14 ex_14 => ?_)
                first | have tx_14 := t_add ex_14 (by omega) (by omega) | skip
                have hPc := hP.sub (ws' := [(h, .inr (3, [.ref a_falls, .ref a_ranks, .ref a_standsOn, .ref a_heldOn, .ref a_holder, .ref a_standing, .int v_size])), (a_standsOn, .inl (cI, 40, .inl fs)), (a_standing, .inl (cI, 365, .inl fg))]) [0, 3, 6] rfl
                refine rwVv (As := [.int j, .int x_14]) (rest := []) (wc := [(h, .inr (3, [.ref a_falls, .ref a_ranks, .ref a_standsOn, .ref a_heldOn, .ref a_holder, .ref a_standing, .int v_size])), (a_standsOn, .inl (cI, 40, .inl fs)), (a_standing, .inl (cI, 365, .inl fg))]) (wr := [(a_falls, .inl (cI, 40, .inl f_falls)), (a_ranks, .inl (cI, 40, .inl f_ranks)), (a_heldOn, .inl (cI, 40, .inl g_4)), (a_holder, .inl (cI, 365, .inl gh))]) S (f_stand  (by omega) (by omega) (by omega)) (cwV 2 hts gX3_hold_X3_stand rfl rfl rfl ⟨rfl, hd_X3_stand⟩ ⟨Nat.le_of_ble_eq_true rfl, Nat.le_of_ble_eq_true rfl⟩) hK hP hD hS hA [0, 3, 6] [1, 2, 4, 5] rfl rfl (by decide +kernel) (by decide +kernel) (by decide +kernel) (va_recv hK.1 hPc (ci := 3) (q0 := 0) rfl rfl) rfl hl.1 rfl (Nat.le_of_ble_eq_true rfl) dX3_hold_66 ⟨Nat.le_of_ble_eq_true rfl, Nat.le_of_ble_eq_true rfl⟩ (fun u_15 H locs hw_15 hP hD hS => ?_)
                obtain ⟨f_standsOn1_15, f_standing1_15⟩ := u_15
                have hw_15 : True := hw_15
                have hP : va_P D vwCl [(a_falls, .inl (cI, 40, .inl f_falls)), (a_ranks, .inl (cI, 40, .inl f_ranks)), (a_heldOn, .inl (cI, 40, .inl g_4)), (a_holder, .inl (cI, 365, .inl gh)), (h, .inr (3, [.ref a_falls, .ref a_ranks, .ref a_standsOn, .ref a_heldOn, .ref a_holder, .ref a_standing, .int v_size])), (a_standsOn, .inl (cI, 40, .inl f_standsOn1_15)), (a_standing, .inl (cI, 365, .inl f_standing1_15))] H := hP
                have hD := asD hP hD
                obtain ⟨x_16, ex_16⟩ : ∃ y : Int32, y = j + 1 := ⟨_, rfl⟩
                refine lv_iinc (v := x_16) (lv' := [(3, .int x_16), (2, .int r_1), (0, .ref h), (1, .int y)]) hx hb dX3_hold_69 hl (k := 0) rfl (by rw [ex_16]; rfl) (by decide) rfl (fun ls hl => ?_)
                first | have tx_16 := t_add ex_16 (by omega) (by omega) | skip
                refine lv_goto (tgt := 28) hx hb dX3_hold_72 (by decide) ?_
                exact ih28 x_16 f_standsOn1_15 f_standing1_15 (by omega) (by omega) (by omega) _ _ (hP.sub [4, 0, 1, 5, 2, 3, 6] rfl) (hD.sub [4, 0, 1, 5, 2, 3, 6] (by decide +kernel) rfl) hS ls (lv_sub hl [0, 1, 2, 3] rfl)
    exact loop28 ((v_size.toInt - (0 : Int32).toInt).toNat + 1) 0 f_standsOn f_standing (by omega) (by omega) (by omega) _ _ hP hD hS ls (lv_sub hl [0, 1, 2, 3] rfl)
  · have tc_2 := t_eq c_2
    exact hret (f_standsOn, f_heldOn, f_holder, f_standing) _ _ _ _ (show InR f_holder 365 (-1) v_size.toInt from hh) (hP.sub [0, 1, 2, 3, 4, 5, 6] rfl) (hD.sub [0, 1, 2, 3, 4, 5, 6] (by decide +kernel) rfl) hS dX3_hold_11

theorem in_f_settle_X3 : ∀ w ∈ wsX30, w ∈ wsX3_settle := tl_X3_settle_X3
set_option maxHeartbeats 8000000 in
set_option maxRecDepth 100000 in
theorem f_settle {l : Launch} {D : va_G} {cI cZ cB : ClassId} {sz : Nat} {h a_falls a_ranks a_standsOn a_heldOn a_holder a_standing : Nat} {v_size : Int32} {f_falls f_ranks f_standsOn f_heldOn f_holder f_standing : Nat → Int32} (hv_size0 : 0 ≤ v_size.toInt) (hv_size1 : v_size.toInt ≤ 40) (hf : InR f_falls v_size.toInt 0 365) : Met l yX3_settle wsX3_settle ({ frames := 3, cells := 0, slots := 0, locals := 69 }) (RW D cI cZ cB [.ref h] sz [(h, .inr (3, [.ref a_falls, .ref a_ranks, .ref a_standsOn, .ref a_heldOn, .ref a_holder, .ref a_standing, .int v_size])), (a_falls, .inl (cI, 40, .inl f_falls)), (a_ranks, .inl (cI, 40, .inl f_ranks)), (a_standsOn, .inl (cI, 40, .inl f_standsOn)), (a_heldOn, .inl (cI, 40, .inl f_heldOn)), (a_holder, .inl (cI, 365, .inl f_holder)), (a_standing, .inl (cI, 365, .inl f_standing))]) (va_Qv (fun u : (Nat → Int32) × (Nat → Int32) × (Nat → Int32) × (Nat → Int32) => InR u.2.2.1 365 (-1) v_size.toInt) (BW D [(h, .inr (3, [.ref a_falls, .ref a_ranks, .ref a_standsOn, .ref a_heldOn, .ref a_holder, .ref a_standing, .int v_size])), (a_falls, .inl (cI, 40, .inl f_falls)), (a_ranks, .inl (cI, 40, .inl f_ranks)), (a_standsOn, .inl (cI, 40, .inl f_standsOn)), (a_heldOn, .inl (cI, 40, .inl f_heldOn)), (a_holder, .inl (cI, 365, .inl f_holder)), (a_standing, .inl (cI, 365, .inl f_standing))] sz (fun u : (Nat → Int32) × (Nat → Int32) × (Nat → Int32) × (Nat → Int32) => [(h, .inr (3, [.ref a_falls, .ref a_ranks, .ref a_standsOn, .ref a_heldOn, .ref a_holder, .ref a_standing, .int v_size])), (a_falls, .inl (cI, 40, .inl f_falls)), (a_ranks, .inl (cI, 40, .inl f_ranks)), (a_standsOn, .inl (cI, 40, .inl u.1)), (a_heldOn, .inl (cI, 40, .inl u.2.1)), (a_holder, .inl (cI, 365, .inl u.2.2.1)), (a_standing, .inl (cI, 365, .inl u.2.2.2))])) (va_A [(h, .inr (3, [.ref a_falls, .ref a_ranks, .ref a_standsOn, .ref a_heldOn, .ref a_holder, .ref a_standing, .int v_size])), (a_falls, .inl (cI, 40, .inl f_falls)), (a_ranks, .inl (cI, 40, .inl f_ranks)), (a_standsOn, .inl (cI, 40, .inl f_standsOn)), (a_heldOn, .inl (cI, 40, .inl f_heldOn)), (a_holder, .inl (cI, 365, .inl f_holder)), (a_standing, .inl (cI, 365, .inl f_standing))] sz)) 0 0 (va_A [(h, .inr (3, [.ref a_falls, .ref a_ranks, .ref a_standsOn, .ref a_heldOn, .ref a_holder, .ref a_standing, .int v_size])), (a_falls, .inl (cI, 40, .inl f_falls)), (a_ranks, .inl (cI, 40, .inl f_ranks)), (a_standsOn, .inl (cI, 40, .inl f_standsOn)), (a_heldOn, .inl (cI, 40, .inl f_heldOn)), (a_holder, .inl (cI, 365, .inl f_holder)), (a_standing, .inl (cI, 365, .inl f_standing))] sz) := by
  refine rw_retv (cc := cX3_settle) (maxL := 2) (own := RX3) (by decide) rfl rfl (Nat.le_of_ble_eq_true rfl) ?_
  intro p e s m args below meth c Q A S hin hret hP hK hD hA hS ls hl
  obtain ⟨hx, hb, hml, hown, hts⟩ := id S
  have hl : lv_has ls 2 [(0, .ref h)] := hl
  have kkm1 : (-1 : Int32).toInt = -1 := by decide
  have kk0 : (0 : Int32).toInt = 0 := by decide
  have kk1 : (1 : Int32).toInt = 1 := by decide
  have kk365 : (365 : Int32).toInt = 365 := by decide
  have lk0 := hts (.fieldLink RX3 30 "AbbeyHours$Feasts" "size" "I") (List.mem_cons_of_mem _ (List.mem_append_left _ (List.mem_of_getElem? (i := 2) rfl)))
  have lk1 := hts (.fieldLink RX3 27 "AbbeyHours$Feasts" "standing" "[I") (List.mem_cons_of_mem _ (List.mem_append_left _ (List.mem_of_getElem? (i := 1) rfl)))
  have lk2 := hts (.fieldLink RX3 21 "AbbeyHours$Feasts" "heldOn" "[I") (List.mem_cons_of_mem _ (List.mem_append_left _ (List.mem_of_getElem? (i := 3) rfl)))
  have lk3 := hts (.fieldLink RX3 11 "AbbeyHours$Feasts" "falls" "[I") (List.mem_cons_of_mem _ (List.mem_append_left _ (List.mem_of_getElem? (i := 4) rfl)))
  have lk4 := hts (.fieldLink RX3 24 "AbbeyHours$Feasts" "holder" "[I") (List.mem_cons_of_mem _ (List.mem_append_left _ (List.mem_of_getElem? (i := 0) rfl)))
  refine lv_iconst (v := 0) hx hb dX3_settle_0 (by decide) ?_
  refine lv_istore_n (lv' := [(1, .int 0), (0, .ref h)]) hx hb dX3_settle_1 rfl hl (by decide) rfl (fun ls hl => ?_)
  have loop2 : ∀ (fuel : Nat) (j : Int32) (fr : Nat → Int32) (fg : Nat → Int32), 365 - j.toInt < (fuel : Int) → (0 ≤ j.toInt) → (j.toInt ≤ 365) → (InR fr j.toInt (-1) v_size.toInt) → ∀ (H : Heap) (locs : List Loc), va_P D vwCl [(h, .inr (3, [.ref a_falls, .ref a_ranks, .ref a_standsOn, .ref a_heldOn, .ref a_holder, .ref a_standing, .int v_size])), (a_falls, .inl (cI, 40, .inl f_falls)), (a_ranks, .inl (cI, 40, .inl f_ranks)), (a_standsOn, .inl (cI, 40, .inl f_standsOn)), (a_heldOn, .inl (cI, 40, .inl f_heldOn)), (a_holder, .inl (cI, 365, .inl fr)), (a_standing, .inl (cI, 365, .inl fg))] H → va_D A [(h, .inr (3, [.ref a_falls, .ref a_ranks, .ref a_standsOn, .ref a_heldOn, .ref a_holder, .ref a_standing, .int v_size])), (a_falls, .inl (cI, 40, .inl f_falls)), (a_ranks, .inl (cI, 40, .inl f_ranks)), (a_standsOn, .inl (cI, 40, .inl f_standsOn)), (a_heldOn, .inl (cI, 40, .inl f_heldOn)), (a_holder, .inl (cI, 365, .inl fr)), (a_standing, .inl (cI, 365, .inl fg))] → va_S A s.heap H locs → ∀ ls : Array Slot, lv_has ls 2 [(1, .int j), (0, .ref h)] → W p l e ({ frames := 3, cells := 0, slots := 0, locals := 69 } : Room) s m args below meth c H locs 0 0 Q (F0 m 2 ls []) := by
    intro fuel
    induction fuel with
    | zero =>
      intro j fr fg hmu hj0 hj1 hr H locs hP hD hS ls hl
      exfalso; omega
    | succ fuel ih2 =>
      intro j fr fg hmu hj0 hj1 hr H locs hP hD hS ls hl
      refine lv_iload_n hx hb dX3_settle_2 rfl (lv_at hl 0 rfl) ?_
      refine lv_sipush (v := 365) hx hb dX3_settle_3 (by decide) ?_
      refine lv_icmp_ge (tgt := 29) hx hb dX3_settle_6 (by decide) (fun c_1 => ?_) (fun c_1 => ?_)
      · have tc_1 := t_le c_1
        refine lv_iconst (v := 0) hx hb dX3_settle_29 (by decide) ?_
        refine lv_istore_n (lv' := [(1, .int 0), (0, .ref h)]) hx hb dX3_settle_30 rfl hl (by decide) rfl (fun ls hl => ?_)
        have loop31 : ∀ (fuel : Nat) (j : Int32) (fs : Nat → Int32) (fg2 : Nat → Int32) (fo : Nat → Int32), v_size.toInt - j.toInt < (fuel : Int) → (0 ≤ j.toInt) → (j.toInt ≤ v_size.toInt) → ∀ (H : Heap) (locs : List Loc), va_P D vwCl [(h, .inr (3, [.ref a_falls, .ref a_ranks, .ref a_standsOn, .ref a_heldOn, .ref a_holder, .ref a_standing, .int v_size])), (a_falls, .inl (cI, 40, .inl f_falls)), (a_ranks, .inl (cI, 40, .inl f_ranks)), (a_standsOn, .inl (cI, 40, .inl fs)), (a_heldOn, .inl (cI, 40, .inl fo)), (a_holder, .inl (cI, 365, .inl fr)), (a_standing, .inl (cI, 365, .inl fg2))] H → va_D A [(h, .inr (3, [.ref a_falls, .ref a_ranks, .ref a_standsOn, .ref a_heldOn, .ref a_holder, .ref a_standing, .int v_size])), (a_falls, .inl (cI, 40, .inl f_falls)), (a_ranks, .inl (cI, 40, .inl f_ranks)), (a_standsOn, .inl (cI, 40, .inl fs)), (a_heldOn, .inl (cI, 40, .inl fo)), (a_holder, .inl (cI, 365, .inl fr)), (a_standing, .inl (cI, 365, .inl fg2))] → va_S A s.heap H locs → ∀ ls : Array Slot, lv_has ls 2 [(1, .int j), (0, .ref h)] → W p l e ({ frames := 3, cells := 0, slots := 0, locals := 69 } : Room) s m args below meth c H locs 0 0 Q (F0 m 31 ls []) := by
          intro fuel
          induction fuel with
          | zero =>
            intro j fs fg2 fo hmu hj0 hj1 H locs hP hD hS ls hl
            exfalso; omega
          | succ fuel ih31 =>
            intro j fs fg2 fo hmu hj0 hj1 H locs hP hD hS ls hl
            refine lv_iload_n hx hb dX3_settle_31 rfl (lv_at hl 0 rfl) ?_
            refine lv_aload_n hx hb dX3_settle_32 rfl (lv_at hl 1 rfl) ?_
            refine va_get (D := D) (ci := 3) (v := .int v_size) (C := RX3) (T := TX3) (N := 7) hx hb hts in_f_settle_X3 hown hK.1 hP 0 rfl rfl 6 (by decide) lk0 (fun _ h9 => h9) rfl dX3_settle_33 ?_
            refine lv_icmp_ge (tgt := 63) hx hb dX3_settle_36 (by decide) (fun c_2 => ?_) (fun c_2 => ?_)
            · have tc_2 := t_le c_2
              refine lv_iconst (v := 0) hx hb dX3_settle_63 (by decide) ?_
              refine lv_istore_n (lv' := [(1, .int 0), (0, .ref h)]) hx hb dX3_settle_64 rfl hl (by decide) rfl (fun ls hl => ?_)
              have loop65 : ∀ (fuel : Nat) (j : Int32) (fs : Nat → Int32) (fg3 : Nat → Int32) (fo : Nat → Int32) (fr3 : Nat → Int32), 365 - j.toInt < (fuel : Int) → (0 ≤ j.toInt) → (j.toInt ≤ 365) → (InR fr3 365 (-1) v_size.toInt) → ∀ (H : Heap) (locs : List Loc), va_P D vwCl [(h, .inr (3, [.ref a_falls, .ref a_ranks, .ref a_standsOn, .ref a_heldOn, .ref a_holder, .ref a_standing, .int v_size])), (a_falls, .inl (cI, 40, .inl f_falls)), (a_ranks, .inl (cI, 40, .inl f_ranks)), (a_standsOn, .inl (cI, 40, .inl fs)), (a_heldOn, .inl (cI, 40, .inl fo)), (a_holder, .inl (cI, 365, .inl fr3)), (a_standing, .inl (cI, 365, .inl fg3))] H → va_D A [(h, .inr (3, [.ref a_falls, .ref a_ranks, .ref a_standsOn, .ref a_heldOn, .ref a_holder, .ref a_standing, .int v_size])), (a_falls, .inl (cI, 40, .inl f_falls)), (a_ranks, .inl (cI, 40, .inl f_ranks)), (a_standsOn, .inl (cI, 40, .inl fs)), (a_heldOn, .inl (cI, 40, .inl fo)), (a_holder, .inl (cI, 365, .inl fr3)), (a_standing, .inl (cI, 365, .inl fg3))] → va_S A s.heap H locs → ∀ ls : Array Slot, lv_has ls 2 [(1, .int j), (0, .ref h)] → W p l e ({ frames := 3, cells := 0, slots := 0, locals := 69 } : Room) s m args below meth c H locs 0 0 Q (F0 m 65 ls []) := by
                intro fuel
                induction fuel with
                | zero =>
                  intro j fs fg3 fo fr3 hmu hj0 hj1 hr3 H locs hP hD hS ls hl
                  exfalso; omega
                | succ fuel ih65 =>
                  intro j fs fg3 fo fr3 hmu hj0 hj1 hr3 H locs hP hD hS ls hl
                  refine lv_iload_n hx hb dX3_settle_65 rfl (lv_at hl 0 rfl) ?_
                  refine lv_sipush (v := 365) hx hb dX3_settle_66 (by decide) ?_
                  refine lv_icmp_ge (tgt := 92) hx hb dX3_settle_69 (by decide) (fun c_3 => ?_) (fun c_3 => ?_)
                  · have tc_3 := t_le c_3
                    exact hret (fs, fo, fr3, fg3) _ _ _ _ (show InR fr3 365 (-1) v_size.toInt from hr3) (hP.sub [0, 1, 2, 3, 4, 5, 6] rfl) (hD.sub [0, 1, 2, 3, 4, 5, 6] (by decide +kernel) rfl) hS dX3_settle_92
                  · have tc_3 := t_nle c_3
                    refine lv_aload_n hx hb dX3_settle_72 rfl (lv_at hl 1 rfl) ?_
                    refine va_get (D := D) (ci := 3) (v := .ref a_standing) (C := RX3) (T := TX3) (N := 7) hx hb hts in_f_settle_X3 hown hK.1 hP 0 rfl rfl 5 (by decide) lk1 (fun _ h9 => h9) rfl dX3_settle_73 ?_
                    refine lv_iload_n hx hb dX3_settle_76 rfl (lv_at hl 0 rfl) ?_
                    refine va_iald hx hb hK.1 hP 6 0 rfl rfl (t_in (by omega) (by omega)) dX3_settle_77 ?_
                    refine lv_topi (fun y_4 ey_4 => ?_)
                    refine lv_if_le (tgt := 86) hx hb dX3_settle_78 (by decide) (fun c_5 => ?_) (fun c_5 => ?_)
                    · have tc_5 := t_le c_5
                      obtain ⟨x_6, ex_6⟩ : ∃ y : Int32, y = j + 1 := ⟨_, rfl⟩
                      refine lv_iinc (v := x_6) (lv' := [(1, .int x_6), (0, .ref h)]) hx hb dX3_settle_86 hl (k := 0) rfl (by rw [ex_6]; rfl) (by decide) rfl (fun ls hl => ?_)
                      first | have tx_6 := t_add ex_6 (by omega) (by omega) | skip
                      refine lv_goto (tgt := 65) hx hb dX3_settle_89 (by decide) ?_
                      exact ih65 x_6 fs fg3 fo fr3 (by omega) (by omega) (by omega) (by first | exact hw_ho | exact hr3) _ _ hP hD hS ls (lv_sub hl [0, 1] rfl)
                    · have tc_5 := t_nle c_5
                      refine lv_aload_n hx hb dX3_settle_81 rfl (lv_at hl 1 rfl) ?_
                      refine lv_iload_n hx hb dX3_settle_82 rfl (lv_at hl 0 rfl) ?_
                      have hPc := hP.sub (ws' := [(h, .inr (3, [.ref a_falls, .ref a_ranks, .ref a_standsOn, .ref a_heldOn, .ref a_holder, .ref a_standing, .int v_size])), (a_falls, .inl (cI, 40, .inl f_falls)), (a_ranks, .inl (cI, 40, .inl f_ranks)), (a_standsOn, .inl (cI, 40, .inl fs)), (a_heldOn, .inl (cI, 40, .inl fo)), (a_holder, .inl (cI, 365, .inl fr3)), (a_standing, .inl (cI, 365, .inl fg3))]) [0, 1, 2, 3, 4, 5, 6] rfl
                      refine rwVv (As := [.int j]) (rest := []) (wc := [(h, .inr (3, [.ref a_falls, .ref a_ranks, .ref a_standsOn, .ref a_heldOn, .ref a_holder, .ref a_standing, .int v_size])), (a_falls, .inl (cI, 40, .inl f_falls)), (a_ranks, .inl (cI, 40, .inl f_ranks)), (a_standsOn, .inl (cI, 40, .inl fs)), (a_heldOn, .inl (cI, 40, .inl fo)), (a_holder, .inl (cI, 365, .inl fr3)), (a_standing, .inl (cI, 365, .inl fg3))]) (wr := []) S (f_hold  (by omega) (by omega) (by omega) (by omega) (hr3)) (cwV 1 hts gX3_settle_X3_hold rfl rfl rfl ⟨rfl, hd_X3_hold⟩ ⟨Nat.le_of_ble_eq_true rfl, Nat.le_of_ble_eq_true rfl⟩) hK hP hD hS hA [0, 1, 2, 3, 4, 5, 6] [] rfl rfl (by decide +kernel) (by decide +kernel) (by decide +kernel) (va_recv hK.1 hPc (ci := 3) (q0 := 0) rfl rfl) rfl hl.1 rfl (Nat.le_of_ble_eq_true rfl) dX3_settle_83 ⟨Nat.le_of_ble_eq_true rfl, Nat.le_of_ble_eq_true rfl⟩ (fun u_ho H locs hw_ho hP hD hS => ?_)
                      obtain ⟨f_standsOn1_ho, f_heldOn1_ho, f_holder1_ho, f_standing1_ho⟩ := u_ho
                      have hw_ho : InR f_holder1_ho 365 (-1) v_size.toInt := hw_ho
                      have hP : va_P D vwCl [(h, .inr (3, [.ref a_falls, .ref a_ranks, .ref a_standsOn, .ref a_heldOn, .ref a_holder, .ref a_standing, .int v_size])), (a_falls, .inl (cI, 40, .inl f_falls)), (a_ranks, .inl (cI, 40, .inl f_ranks)), (a_standsOn, .inl (cI, 40, .inl f_standsOn1_ho)), (a_heldOn, .inl (cI, 40, .inl f_heldOn1_ho)), (a_holder, .inl (cI, 365, .inl f_holder1_ho)), (a_standing, .inl (cI, 365, .inl f_standing1_ho))] H := hP
                      have hD := asD hP hD
                      obtain ⟨x_7, ex_7⟩ : ∃ y : Int32, y = j + 1 := ⟨_, rfl⟩
                      refine lv_iinc (v := x_7) (lv' := [(1, .int x_7), (0, .ref h)]) hx hb dX3_settle_86 hl (k := 0) rfl (by rw [ex_7]; rfl) (by decide) rfl (fun ls hl => ?_)
                      first | have tx_7 := t_add ex_7 (by omega) (by omega) | skip
                      refine lv_goto (tgt := 65) hx hb dX3_settle_89 (by decide) ?_
                      exact ih65 x_7 f_standsOn1_ho f_standing1_ho f_heldOn1_ho f_holder1_ho (by omega) (by omega) (by omega) (by first | exact hw_ho | exact hr3) _ _ hP hD hS ls (lv_sub hl [0, 1] rfl)
              exact loop65 ((365 - (0 : Int32).toInt).toNat + 1) 0 fs fg2 fo fr (by omega) (by omega) (by omega) (hr.mono (by omega) (by omega) (by omega)) _ _ hP hD hS ls (lv_sub hl [0, 1] rfl)
            · have tc_2 := t_nle c_2
              refine lv_aload_n hx hb dX3_settle_39 rfl (lv_at hl 1 rfl) ?_
              refine va_get (D := D) (ci := 3) (v := .ref a_heldOn) (C := RX3) (T := TX3) (N := 7) hx hb hts in_f_settle_X3 hown hK.1 hP 0 rfl rfl 3 (by decide) lk2 (fun _ h9 => h9) rfl dX3_settle_40 ?_
              refine lv_iload_n hx hb dX3_settle_43 rfl (lv_at hl 0 rfl) ?_
              refine lv_iconst (v := (-1)) hx hb dX3_settle_44 (by decide) ?_
              refine va_iast hx hb hK.1 hP hD hS 4 0 rfl rfl (t_in (by omega) (by omega)) dX3_settle_45 (fun H locs hP hD hS => ?_)
              obtain ⟨g_8, eg_8⟩ : ∃ z : Nat → Int32, z = upd fo ((j : Int32).toNatClampNeg) (-1) := ⟨_, rfl⟩
              rw [← eg_8] at hP hD
              have hP : va_P D vwCl [(h, .inr (3, [.ref a_falls, .ref a_ranks, .ref a_standsOn, .ref a_heldOn, .ref a_holder, .ref a_standing, .int v_size])), (a_falls, .inl (cI, 40, .inl f_falls)), (a_ranks, .inl (cI, 40, .inl f_ranks)), (a_standsOn, .inl (cI, 40, .inl fs)), (a_heldOn, .inl (cI, 40, .inl g_8)), (a_holder, .inl (cI, 365, .inl fr)), (a_standing, .inl (cI, 365, .inl fg2))] H := hP
              have hD := asD hP hD
              refine lv_aload_n hx hb dX3_settle_46 rfl (lv_at hl 1 rfl) ?_
              refine lv_iload_n hx hb dX3_settle_47 rfl (lv_at hl 0 rfl) ?_
              refine lv_aload_n hx hb dX3_settle_48 rfl (lv_at hl 1 rfl) ?_
              refine va_get (D := D) (ci := 3) (v := .ref a_falls) (C := RX3) (T := TX3) (N := 7) hx hb hts in_f_settle_X3 hown hK.1 hP 0 rfl rfl 0 (by decide) lk3 (fun _ h9 => h9) rfl dX3_settle_49 ?_
              refine lv_iload_n hx hb dX3_settle_52 rfl (lv_at hl 0 rfl) ?_
              refine va_iald hx hb hK.1 hP 1 0 rfl rfl (t_in (by omega) (by omega)) dX3_settle_53 ?_
              refine lv_topi (fun y_9 ey_9 => ?_)
              have hq := hf.get (i := j) (by omega) (by omega)
              rw [← ey_9] at hq
              have hPc := hP.sub (ws' := [(h, .inr (3, [.ref a_falls, .ref a_ranks, .ref a_standsOn, .ref a_heldOn, .ref a_holder, .ref a_standing, .int v_size])), (a_standsOn, .inl (cI, 40, .inl fs)), (a_standing, .inl (cI, 365, .inl fg2))]) [0, 3, 6] rfl
              refine rwVv (As := [.int j, .int y_9]) (rest := []) (wc := [(h, .inr (3, [.ref a_falls, .ref a_ranks, .ref a_standsOn, .ref a_heldOn, .ref a_holder, .ref a_standing, .int v_size])), (a_standsOn, .inl (cI, 40, .inl fs)), (a_standing, .inl (cI, 365, .inl fg2))]) (wr := [(a_falls, .inl (cI, 40, .inl f_falls)), (a_ranks, .inl (cI, 40, .inl f_ranks)), (a_heldOn, .inl (cI, 40, .inl g_8)), (a_holder, .inl (cI, 365, .inl fr))]) S (f_stand  (by omega) (by omega) (by omega)) (cwV 2 hts gX3_settle_X3_stand rfl rfl rfl ⟨rfl, hd_X3_stand⟩ ⟨Nat.le_of_ble_eq_true rfl, Nat.le_of_ble_eq_true rfl⟩) hK hP hD hS hA [0, 3, 6] [1, 2, 4, 5] rfl rfl (by decide +kernel) (by decide +kernel) (by decide +kernel) (va_recv hK.1 hPc (ci := 3) (q0 := 0) rfl rfl) rfl hl.1 rfl (Nat.le_of_ble_eq_true rfl) dX3_settle_54 ⟨Nat.le_of_ble_eq_true rfl, Nat.le_of_ble_eq_true rfl⟩ (fun u_10 H locs hw_10 hP hD hS => ?_)
              obtain ⟨f_standsOn1_10, f_standing1_10⟩ := u_10
              have hw_10 : True := hw_10
              have hP : va_P D vwCl [(a_falls, .inl (cI, 40, .inl f_falls)), (a_ranks, .inl (cI, 40, .inl f_ranks)), (a_heldOn, .inl (cI, 40, .inl g_8)), (a_holder, .inl (cI, 365, .inl fr)), (h, .inr (3, [.ref a_falls, .ref a_ranks, .ref a_standsOn, .ref a_heldOn, .ref a_holder, .ref a_standing, .int v_size])), (a_standsOn, .inl (cI, 40, .inl f_standsOn1_10)), (a_standing, .inl (cI, 365, .inl f_standing1_10))] H := hP
              have hD := asD hP hD
              obtain ⟨x_11, ex_11⟩ : ∃ y : Int32, y = j + 1 := ⟨_, rfl⟩
              refine lv_iinc (v := x_11) (lv' := [(1, .int x_11), (0, .ref h)]) hx hb dX3_settle_57 hl (k := 0) rfl (by rw [ex_11]; rfl) (by decide) rfl (fun ls hl => ?_)
              first | have tx_11 := t_add ex_11 (by omega) (by omega) | skip
              refine lv_goto (tgt := 31) hx hb dX3_settle_60 (by decide) ?_
              exact ih31 x_11 f_standsOn1_10 f_standing1_10 g_8 (by omega) (by omega) (by omega) _ _ (hP.sub [4, 0, 1, 5, 2, 3, 6] rfl) (hD.sub [4, 0, 1, 5, 2, 3, 6] (by decide +kernel) rfl) hS ls (lv_sub hl [0, 1] rfl)
        exact loop31 ((v_size.toInt - (0 : Int32).toInt).toNat + 1) 0 f_standsOn fg f_heldOn (by omega) (by omega) (by omega) _ _ hP hD hS ls (lv_sub hl [0, 1] rfl)
      · have tc_1 := t_nle c_1
        refine lv_aload_n hx hb dX3_settle_9 rfl (lv_at hl 1 rfl) ?_
        refine va_get (D := D) (ci := 3) (v := .ref a_holder) (C := RX3) (T := TX3) (N := 7) hx hb hts in_f_settle_X3 hown hK.1 hP 0 rfl rfl 4 (by decide) lk4 (fun _ h9 => h9) rfl dX3_settle_10 ?_
        refine lv_iload_n hx hb dX3_settle_13 rfl (lv_at hl 0 rfl) ?_
        refine lv_iconst (v := (-1)) hx hb dX3_settle_14 (by decide) ?_
        refine va_iast hx hb hK.1 hP hD hS 5 0 rfl rfl (t_in (by omega) (by omega)) dX3_settle_15 (fun H locs hP hD hS => ?_)
        obtain ⟨gh, egh⟩ : ∃ z : Nat → Int32, z = upd fr ((j : Int32).toNatClampNeg) (-1) := ⟨_, rfl⟩
        rw [← egh] at hP hD
        have hP : va_P D vwCl [(h, .inr (3, [.ref a_falls, .ref a_ranks, .ref a_standsOn, .ref a_heldOn, .ref a_holder, .ref a_standing, .int v_size])), (a_falls, .inl (cI, 40, .inl f_falls)), (a_ranks, .inl (cI, 40, .inl f_ranks)), (a_standsOn, .inl (cI, 40, .inl f_standsOn)), (a_heldOn, .inl (cI, 40, .inl f_heldOn)), (a_holder, .inl (cI, 365, .inl gh)), (a_standing, .inl (cI, 365, .inl fg))] H := hP
        have hD := asD hP hD
        refine lv_aload_n hx hb dX3_settle_16 rfl (lv_at hl 1 rfl) ?_
        refine va_get (D := D) (ci := 3) (v := .ref a_standing) (C := RX3) (T := TX3) (N := 7) hx hb hts in_f_settle_X3 hown hK.1 hP 0 rfl rfl 5 (by decide) lk1 (fun _ h9 => h9) rfl dX3_settle_17 ?_
        refine lv_iload_n hx hb dX3_settle_20 rfl (lv_at hl 0 rfl) ?_
        refine lv_iconst (v := 0) hx hb dX3_settle_21 (by decide) ?_
        refine va_iast hx hb hK.1 hP hD hS 6 0 rfl rfl (t_in (by omega) (by omega)) dX3_settle_22 (fun H locs hP hD hS => ?_)
        obtain ⟨g_13, eg_13⟩ : ∃ z : Nat → Int32, z = upd fg ((j : Int32).toNatClampNeg) 0 := ⟨_, rfl⟩
        rw [← eg_13] at hP hD
        have hP : va_P D vwCl [(h, .inr (3, [.ref a_falls, .ref a_ranks, .ref a_standsOn, .ref a_heldOn, .ref a_holder, .ref a_standing, .int v_size])), (a_falls, .inl (cI, 40, .inl f_falls)), (a_ranks, .inl (cI, 40, .inl f_ranks)), (a_standsOn, .inl (cI, 40, .inl f_standsOn)), (a_heldOn, .inl (cI, 40, .inl f_heldOn)), (a_holder, .inl (cI, 365, .inl gh)), (a_standing, .inl (cI, 365, .inl g_13))] H := hP
        have hD := asD hP hD
        obtain ⟨x_14, ex_14⟩ : ∃ y : Int32, y = j + 1 := ⟨_, rfl⟩
        refine lv_iinc (v := x_14) (lv' := [(1, .int x_14), (0, .ref h)]) hx hb dX3_settle_23 hl (k := 0) rfl (by rw [ex_14]; rfl) (by decide) rfl (fun ls hl => ?_)
        first | have tx_14 := t_add ex_14 (by omega) (by omega) | skip
        refine lv_goto (tgt := 2) hx hb dX3_settle_26 (by decide) ?_
        exact ih2 x_14 gh g_13 (by omega) (by omega) (by omega) (by rw [egh]; exact hr.ext (by omega) (by omega) (by omega) (by omega)) _ _ hP hD hS ls (lv_sub hl [0, 1] rfl)
  exact loop2 ((365 - (0 : Int32).toInt).toNat + 1) 0 f_holder f_standing (by omega) (by omega) (by omega) (InR.zero) _ _ hP hD hS ls (lv_sub hl [0, 1] rfl)

theorem in_f_enter_X3 : ∀ w ∈ wsX30, w ∈ wsX3_enter := tl_X3_enter_X3
set_option maxHeartbeats 8000000 in
set_option maxRecDepth 100000 in
theorem f_enter {l : Launch} {D : va_G} {cI cZ cB : ClassId} {sz : Nat} {h a_falls a_ranks a_standsOn a_heldOn a_holder a_standing : Nat} {v_size : Int32} {f_falls f_ranks f_standsOn f_heldOn f_holder f_standing : Nat → Int32} {d k : Int32} (hv_size0 : 0 ≤ v_size.toInt) (hv_size1 : v_size.toInt ≤ 40) (hh : 0 < v_size.toInt → InR f_holder 365 (-1) v_size.toInt) (hf : InR f_falls v_size.toInt 0 365) (hd0 : 0 ≤ d.toInt) (hd1 : d.toInt < 365) : Met l yX3_enter wsX3_enter ({ frames := 4, cells := 0, slots := 0, locals := 90 }) (RW D cI cZ cB [.ref h, .int d, .int k] sz [(h, .inr (3, [.ref a_falls, .ref a_ranks, .ref a_standsOn, .ref a_heldOn, .ref a_holder, .ref a_standing, .int v_size])), (a_falls, .inl (cI, 40, .inl f_falls)), (a_ranks, .inl (cI, 40, .inl f_ranks)), (a_standsOn, .inl (cI, 40, .inl f_standsOn)), (a_heldOn, .inl (cI, 40, .inl f_heldOn)), (a_holder, .inl (cI, 365, .inl f_holder)), (a_standing, .inl (cI, 365, .inl f_standing))]) (va_Qi (fun (r : Int32) (u : Int32 × (Nat → Int32) × (Nat → Int32) × (Nat → Int32) × (Nat → Int32) × (Nat → Int32) × (Nat → Int32)) => ((v_size.toInt = 40 ∧ r.toInt = -1 ∧ u.1 = v_size) ∨ (v_size.toInt < 40 ∧ r.toInt = v_size.toInt ∧ u.1.toInt = v_size.toInt + 1)) ∧ InR u.2.1 u.1.toInt 0 365 ∧ (0 < u.1.toInt → InR u.2.2.2.2.2.1 365 (-1) u.1.toInt)) (BW D [(h, .inr (3, [.ref a_falls, .ref a_ranks, .ref a_standsOn, .ref a_heldOn, .ref a_holder, .ref a_standing, .int v_size])), (a_falls, .inl (cI, 40, .inl f_falls)), (a_ranks, .inl (cI, 40, .inl f_ranks)), (a_standsOn, .inl (cI, 40, .inl f_standsOn)), (a_heldOn, .inl (cI, 40, .inl f_heldOn)), (a_holder, .inl (cI, 365, .inl f_holder)), (a_standing, .inl (cI, 365, .inl f_standing))] sz (fun u : Int32 × (Nat → Int32) × (Nat → Int32) × (Nat → Int32) × (Nat → Int32) × (Nat → Int32) × (Nat → Int32) => [(h, .inr (3, [.ref a_falls, .ref a_ranks, .ref a_standsOn, .ref a_heldOn, .ref a_holder, .ref a_standing, .int u.1])), (a_falls, .inl (cI, 40, .inl u.2.1)), (a_ranks, .inl (cI, 40, .inl u.2.2.1)), (a_standsOn, .inl (cI, 40, .inl u.2.2.2.1)), (a_heldOn, .inl (cI, 40, .inl u.2.2.2.2.1)), (a_holder, .inl (cI, 365, .inl u.2.2.2.2.2.1)), (a_standing, .inl (cI, 365, .inl u.2.2.2.2.2.2))])) (va_A [(h, .inr (3, [.ref a_falls, .ref a_ranks, .ref a_standsOn, .ref a_heldOn, .ref a_holder, .ref a_standing, .int v_size])), (a_falls, .inl (cI, 40, .inl f_falls)), (a_ranks, .inl (cI, 40, .inl f_ranks)), (a_standsOn, .inl (cI, 40, .inl f_standsOn)), (a_heldOn, .inl (cI, 40, .inl f_heldOn)), (a_holder, .inl (cI, 365, .inl f_holder)), (a_standing, .inl (cI, 365, .inl f_standing))] sz)) 0 0 (va_A [(h, .inr (3, [.ref a_falls, .ref a_ranks, .ref a_standsOn, .ref a_heldOn, .ref a_holder, .ref a_standing, .int v_size])), (a_falls, .inl (cI, 40, .inl f_falls)), (a_ranks, .inl (cI, 40, .inl f_ranks)), (a_standsOn, .inl (cI, 40, .inl f_standsOn)), (a_heldOn, .inl (cI, 40, .inl f_heldOn)), (a_holder, .inl (cI, 365, .inl f_holder)), (a_standing, .inl (cI, 365, .inl f_standing))] sz) := by
  refine rw_ret (cc := cX3_enter) (maxL := 3) (ty := .int) (own := RX3) (by decide) rfl rfl (Nat.le_of_ble_eq_true rfl) ?_
  intro p e s m args below meth c Q A S hin hret hP hK hD hA hS ls hl
  obtain ⟨hx, hb, hml, hown, hts⟩ := id S
  have hl : lv_has ls 3 [(0, .ref h), (1, .int d), (2, .int k)] := hl
  have kkm1 : (-1 : Int32).toInt = -1 := by decide
  have kk0 : (0 : Int32).toInt = 0 := by decide
  have kk1 : (1 : Int32).toInt = 1 := by decide
  have kk40 : (40 : Int32).toInt = 40 := by decide
  have lk0 := hts (.fieldLink RX3 30 "AbbeyHours$Feasts" "size" "I") (mc_X3_enter_r1 _ (List.mem_of_getElem? (i := 0) rfl))
  have lk1 := hts (.fieldLink RX3 11 "AbbeyHours$Feasts" "falls" "[I") (mc_X3_enter_r1 _ (List.mem_of_getElem? (i := 1) rfl))
  have lk2 := hts (.fieldLink RX3 15 "AbbeyHours$Feasts" "ranks" "[I") (mc_X3_enter_r1 _ (List.mem_of_getElem? (i := 2) rfl))
  refine lv_aload_n hx hb dX3_enter_0 rfl (lv_at hl 0 rfl) ?_
  refine va_get (D := D) (ci := 3) (v := .int v_size) (C := RX3) (T := TX3) (N := 7) hx hb hts in_f_enter_X3 hown hK.1 hP 0 rfl rfl 6 (by decide) lk0 (fun _ h9 => h9) rfl dX3_enter_1 ?_
  refine lv_bipush (v := 40) hx hb dX3_enter_4 (by decide) ?_
  refine lv_icmp_lt (tgt := 11) hx hb dX3_enter_6 (by decide) (fun c_1 => ?_) (fun c_1 => ?_)
  · have tc_1 := t_lt c_1
    refine lv_aload_n hx hb dX3_enter_11 rfl (lv_at hl 0 rfl) ?_
    refine va_get (D := D) (ci := 3) (v := .ref a_falls) (C := RX3) (T := TX3) (N := 7) hx hb hts in_f_enter_X3 hown hK.1 hP 0 rfl rfl 0 (by decide) lk1 (fun _ h9 => h9) rfl dX3_enter_12 ?_
    refine lv_aload_n hx hb dX3_enter_15 rfl (lv_at hl 0 rfl) ?_
    refine va_get (D := D) (ci := 3) (v := .int v_size) (C := RX3) (T := TX3) (N := 7) hx hb hts in_f_enter_X3 hown hK.1 hP 0 rfl rfl 6 (by decide) lk0 (fun _ h9 => h9) rfl dX3_enter_16 ?_
    refine lv_iload_n hx hb dX3_enter_19 rfl (lv_at hl 1 rfl) ?_
    refine va_iast hx hb hK.1 hP hD hS 1 0 rfl rfl (t_in (by omega) (by omega)) dX3_enter_20 (fun H locs hP hD hS => ?_)
    obtain ⟨gf, egf⟩ : ∃ z : Nat → Int32, z = upd f_falls ((v_size : Int32).toNatClampNeg) d := ⟨_, rfl⟩
    rw [← egf] at hP hD
    have hP : va_P D vwCl [(h, .inr (3, [.ref a_falls, .ref a_ranks, .ref a_standsOn, .ref a_heldOn, .ref a_holder, .ref a_standing, .int v_size])), (a_falls, .inl (cI, 40, .inl gf)), (a_ranks, .inl (cI, 40, .inl f_ranks)), (a_standsOn, .inl (cI, 40, .inl f_standsOn)), (a_heldOn, .inl (cI, 40, .inl f_heldOn)), (a_holder, .inl (cI, 365, .inl f_holder)), (a_standing, .inl (cI, 365, .inl f_standing))] H := hP
    have hD := asD hP hD
    refine lv_aload_n hx hb dX3_enter_21 rfl (lv_at hl 0 rfl) ?_
    refine va_get (D := D) (ci := 3) (v := .ref a_ranks) (C := RX3) (T := TX3) (N := 7) hx hb hts in_f_enter_X3 hown hK.1 hP 0 rfl rfl 1 (by decide) lk2 (fun _ h9 => h9) rfl dX3_enter_22 ?_
    refine lv_aload_n hx hb dX3_enter_25 rfl (lv_at hl 0 rfl) ?_
    refine va_get (D := D) (ci := 3) (v := .int v_size) (C := RX3) (T := TX3) (N := 7) hx hb hts in_f_enter_X3 hown hK.1 hP 0 rfl rfl 6 (by decide) lk0 (fun _ h9 => h9) rfl dX3_enter_26 ?_
    refine lv_iload_n hx hb dX3_enter_29 rfl (lv_at hl 2 rfl) ?_
    refine va_iast hx hb hK.1 hP hD hS 2 0 rfl rfl (t_in (by omega) (by omega)) dX3_enter_30 (fun H locs hP hD hS => ?_)
    obtain ⟨g_3, eg_3⟩ : ∃ z : Nat → Int32, z = upd f_ranks ((v_size : Int32).toNatClampNeg) k := ⟨_, rfl⟩
    rw [← eg_3] at hP hD
    have hP : va_P D vwCl [(h, .inr (3, [.ref a_falls, .ref a_ranks, .ref a_standsOn, .ref a_heldOn, .ref a_holder, .ref a_standing, .int v_size])), (a_falls, .inl (cI, 40, .inl gf)), (a_ranks, .inl (cI, 40, .inl g_3)), (a_standsOn, .inl (cI, 40, .inl f_standsOn)), (a_heldOn, .inl (cI, 40, .inl f_heldOn)), (a_holder, .inl (cI, 365, .inl f_holder)), (a_standing, .inl (cI, 365, .inl f_standing))] H := hP
    have hD := asD hP hD
    refine lv_aload_n hx hb dX3_enter_31 rfl (lv_at hl 0 rfl) ?_
    refine lv_dup hx hb dX3_enter_32 rfl ?_
    refine va_get (D := D) (ci := 3) (v := .int v_size) (C := RX3) (T := TX3) (N := 7) hx hb hts in_f_enter_X3 hown hK.1 hP 0 rfl rfl 6 (by decide) lk0 (fun _ h9 => h9) rfl dX3_enter_33 ?_
    refine lv_iconst (v := 1) hx hb dX3_enter_36 (by decide) ?_
    refine lv_iadd hx hb dX3_enter_37 ?_
    refine lv_topi (fun n1 en1 => ?_)
    first | have tn1 := t_add en1 (by omega) (by omega) | skip
    have hf2 : InR gf n1.toInt 0 365 := by rw [egf]; exact hf.ext (by omega) (by omega) (by omega) (by omega)
    refine va_put (D := D) (ci := 3) (v := .int n1) (ty := .int) (C := RX3) (T := TX3) (N := 7) hx hb hts in_f_enter_X3 tyX3 tyX3_ok nmX3 hown hK.1 hP hD hS 0 rfl rfl 6 (by decide) lk0 (fun _ h9 => h9) rfl (by decide +kernel) rfl rfl (Nat.le_of_ble_eq_true rfl) dX3_enter_38 (fun H locs hP hD hS => ?_)
    have hP : va_P D vwCl [(h, .inr (3, [.ref a_falls, .ref a_ranks, .ref a_standsOn, .ref a_heldOn, .ref a_holder, .ref a_standing, .int n1])), (a_falls, .inl (cI, 40, .inl gf)), (a_ranks, .inl (cI, 40, .inl g_3)), (a_standsOn, .inl (cI, 40, .inl f_standsOn)), (a_heldOn, .inl (cI, 40, .inl f_heldOn)), (a_holder, .inl (cI, 365, .inl f_holder)), (a_standing, .inl (cI, 365, .inl f_standing))] H := hP
    have hD := asD hP hD
    refine lv_aload_n hx hb dX3_enter_41 rfl (lv_at hl 0 rfl) ?_
    have hPc := hP.sub (ws' := [(h, .inr (3, [.ref a_falls, .ref a_ranks, .ref a_standsOn, .ref a_heldOn, .ref a_holder, .ref a_standing, .int n1])), (a_falls, .inl (cI, 40, .inl gf)), (a_ranks, .inl (cI, 40, .inl g_3)), (a_standsOn, .inl (cI, 40, .inl f_standsOn)), (a_heldOn, .inl (cI, 40, .inl f_heldOn)), (a_holder, .inl (cI, 365, .inl f_holder)), (a_standing, .inl (cI, 365, .inl f_standing))]) [0, 1, 2, 3, 4, 5, 6] rfl
    refine rwVv (As := []) (rest := []) (wc := [(h, .inr (3, [.ref a_falls, .ref a_ranks, .ref a_standsOn, .ref a_heldOn, .ref a_holder, .ref a_standing, .int n1])), (a_falls, .inl (cI, 40, .inl gf)), (a_ranks, .inl (cI, 40, .inl g_3)), (a_standsOn, .inl (cI, 40, .inl f_standsOn)), (a_heldOn, .inl (cI, 40, .inl f_heldOn)), (a_holder, .inl (cI, 365, .inl f_holder)), (a_standing, .inl (cI, 365, .inl f_standing))]) (wr := []) S (f_settle  (by omega) (by omega) (hf2)) (cwV 0 hts gX3_enter_X3_settle rfl rfl rfl ⟨rfl, hd_X3_settle⟩ ⟨Nat.le_of_ble_eq_true rfl, Nat.le_of_ble_eq_true rfl⟩) hK hP hD hS hA [0, 1, 2, 3, 4, 5, 6] [] rfl rfl (by decide +kernel) (by decide +kernel) (by decide +kernel) (va_recv hK.1 hPc (ci := 3) (q0 := 0) rfl rfl) rfl hl.1 rfl (Nat.le_of_ble_eq_true rfl) dX3_enter_42 ⟨Nat.le_of_ble_eq_true rfl, Nat.le_of_ble_eq_true rfl⟩ (fun u_st H locs hw_st hP hD hS => ?_)
    obtain ⟨f_standsOn1_st, f_heldOn1_st, f_holder1_st, f_standing1_st⟩ := u_st
    have hw_st : InR f_holder1_st 365 (-1) n1.toInt := hw_st
    have hP : va_P D vwCl [(h, .inr (3, [.ref a_falls, .ref a_ranks, .ref a_standsOn, .ref a_heldOn, .ref a_holder, .ref a_standing, .int n1])), (a_falls, .inl (cI, 40, .inl gf)), (a_ranks, .inl (cI, 40, .inl g_3)), (a_standsOn, .inl (cI, 40, .inl f_standsOn1_st)), (a_heldOn, .inl (cI, 40, .inl f_heldOn1_st)), (a_holder, .inl (cI, 365, .inl f_holder1_st)), (a_standing, .inl (cI, 365, .inl f_standing1_st))] H := hP
    have hD := asD hP hD
    refine lv_aload_n hx hb dX3_enter_45 rfl (lv_at hl 0 rfl) ?_
    refine va_get (D := D) (ci := 3) (v := .int n1) (C := RX3) (T := TX3) (N := 7) hx hb hts in_f_enter_X3 hown hK.1 hP 0 rfl rfl 6 (by decide) lk0 (fun _ h9 => h9) rfl dX3_enter_46 ?_
    refine lv_iconst (v := 1) hx hb dX3_enter_49 (by decide) ?_
    refine lv_isub hx hb dX3_enter_50 ?_
    refine lv_topi (fun x_5 ex_5 => ?_)
    first | have tx_5 := t_sub ex_5 (by omega) (by omega) | skip
    exact hret x_5 (n1, gf, g_3, f_standsOn1_st, f_heldOn1_st, f_holder1_st, f_standing1_st) _ _ _ _ (show ((v_size.toInt = 40 ∧ x_5.toInt = -1 ∧ n1 = v_size) ∨ (v_size.toInt < 40 ∧ x_5.toInt = v_size.toInt ∧ n1.toInt = v_size.toInt + 1)) ∧ InR gf n1.toInt 0 365 ∧ (0 < n1.toInt → InR f_holder1_st 365 (-1) n1.toInt) from ⟨Or.inr ⟨by omega, by omega, by omega⟩, hf2, fun _ => hw_st⟩) rfl (hP.sub [0, 1, 2, 3, 4, 5, 6] rfl) (hD.sub [0, 1, 2, 3, 4, 5, 6] (by decide +kernel) rfl) hS dX3_enter_51
  · have tc_1 := t_nlt c_1
    refine lv_iconst (v := (-1)) hx hb dX3_enter_9 (by decide) ?_
    exact hret (-1) (v_size, f_falls, f_ranks, f_standsOn, f_heldOn, f_holder, f_standing) _ _ _ _ (show ((v_size.toInt = 40 ∧ (-1 : Int32).toInt = -1 ∧ v_size = v_size) ∨ (v_size.toInt < 40 ∧ (-1 : Int32).toInt = v_size.toInt ∧ v_size.toInt = v_size.toInt + 1)) ∧ InR f_falls v_size.toInt 0 365 ∧ (0 < v_size.toInt → InR f_holder 365 (-1) v_size.toInt) from ⟨Or.inl ⟨by omega, by omega, rfl⟩, hf, hh⟩) rfl (hP.sub [0, 1, 2, 3, 4, 5, 6] rfl) (hD.sub [0, 1, 2, 3, 4, 5, 6] (by decide +kernel) rfl) hS dX3_enter_10

