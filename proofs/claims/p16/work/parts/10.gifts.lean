theorem in_g_size_X4 : ∀ w ∈ wsX40, w ∈ wsX4_size := tl_X4_size_X4
set_option maxHeartbeats 8000000 in
set_option maxRecDepth 100000 in
theorem g_size {l : Launch} {D : va_G} {cI cZ cB : ClassId} {h a_weekly a_doubled a_dueOn a_owed a_said a_spared a_leaveOf a_leaveFrom a_leaveTo : Nat} {v_size v_rows : Int32}  : Met l yX4_size wsX4_size ({ frames := 0, cells := 0, slots := 0, locals := 0 }) (RO D cI cZ cB [.ref h] [(h, .inr (4, [.ref a_weekly, .ref a_doubled, .ref a_dueOn, .ref a_owed, .ref a_said, .ref a_spared, .ref a_leaveOf, .ref a_leaveFrom, .ref a_leaveTo, .int v_size, .int v_rows]))]) (vp_Si (fun r : Int32 => r = v_size)) 0 0 (fun _ => False) := by
  refine ro_ret (cc := cX4_size) (maxL := 1) (ty := .int) (own := RX4) (by decide) rfl rfl (Nat.le_of_ble_eq_true rfl) ?_
  intro p e s m args below meth c Q S hret hP hK ls hl
  obtain ⟨hx, hb, hml, hown, hts⟩ := id S
  have hl : lv_has ls 1 [(0, .ref h)] := hl
  have kk0 : (0 : Int32).toInt = 0 := by decide
  have lk0 := hts (.fieldLink RX4 40 "AbbeyHours$Gifts" "size" "I") (List.mem_cons_of_mem _ (List.mem_append_left _ (List.mem_of_getElem? (i := 0) rfl)))
  refine lv_aload_n hx hb dX4_size_0 rfl (lv_at hl 0 rfl) ?_
  refine va_get (D := D) (ci := 4) (v := .int v_size) (C := RX4) (T := TX4) (N := 11) hx hb hts in_g_size_X4 hown hK.1 hP 0 rfl rfl 9 (by decide) lk0 (fun _ h9 => h9) rfl dX4_size_1 ?_
  exact hret v_size _ _ (show v_size = v_size from rfl) rfl dX4_size_4

theorem in_g_has_X4 : ∀ w ∈ wsX40, w ∈ wsX4_has := tl_X4_has_X4
set_option maxHeartbeats 8000000 in
set_option maxRecDepth 100000 in
theorem g_has {l : Launch} {D : va_G} {cI cZ cB : ClassId} {h a_weekly a_doubled a_dueOn a_owed a_said a_spared a_leaveOf a_leaveFrom a_leaveTo : Nat} {v_size v_rows : Int32} {i : Int32}  : Met l yX4_has wsX4_has ({ frames := 0, cells := 0, slots := 0, locals := 0 }) (RO D cI cZ cB [.ref h, .int i] [(h, .inr (4, [.ref a_weekly, .ref a_doubled, .ref a_dueOn, .ref a_owed, .ref a_said, .ref a_spared, .ref a_leaveOf, .ref a_leaveFrom, .ref a_leaveTo, .int v_size, .int v_rows]))]) (vp_Si (fun r : Int32 => (r.toInt = 1 ∧ 0 ≤ i.toInt ∧ i.toInt < v_size.toInt) ∨ (r.toInt = 0 ∧ (i.toInt < 0 ∨ v_size.toInt ≤ i.toInt)))) 0 0 (fun _ => False) := by
  refine ro_ret (cc := cX4_has) (maxL := 2) (ty := .boolean) (own := RX4) (by decide) rfl rfl (Nat.le_of_ble_eq_true rfl) ?_
  intro p e s m args below meth c Q S hret hP hK ls hl
  obtain ⟨hx, hb, hml, hown, hts⟩ := id S
  have hl : lv_has ls 2 [(0, .ref h), (1, .int i)] := hl
  have kk0 : (0 : Int32).toInt = 0 := by decide
  have kk1 : (1 : Int32).toInt = 1 := by decide
  have lk0 := hts (.fieldLink RX4 40 "AbbeyHours$Gifts" "size" "I") (List.mem_cons_of_mem _ (List.mem_append_left _ (List.mem_of_getElem? (i := 0) rfl)))
  refine lv_iload_n hx hb dX4_has_0 rfl (lv_at hl 1 rfl) ?_
  refine lv_if_lt (tgt := 16) hx hb dX4_has_1 (by decide) (fun c_1 => ?_) (fun c_1 => ?_)
  · have tc_1 := t_lt c_1
    refine lv_iconst (v := 0) hx hb dX4_has_16 (by decide) ?_
    exact hret 0 _ _ (show ((0 : Int32).toInt = 1 ∧ 0 ≤ i.toInt ∧ i.toInt < v_size.toInt) ∨ ((0 : Int32).toInt = 0 ∧ (i.toInt < 0 ∨ v_size.toInt ≤ i.toInt)) from by omega) rfl dX4_has_17
  · have tc_1 := t_nlt c_1
    refine lv_iload_n hx hb dX4_has_4 rfl (lv_at hl 1 rfl) ?_
    refine lv_aload_n hx hb dX4_has_5 rfl (lv_at hl 0 rfl) ?_
    refine va_get (D := D) (ci := 4) (v := .int v_size) (C := RX4) (T := TX4) (N := 11) hx hb hts in_g_has_X4 hown hK.1 hP 0 rfl rfl 9 (by decide) lk0 (fun _ h9 => h9) rfl dX4_has_6 ?_
    refine lv_icmp_ge (tgt := 16) hx hb dX4_has_9 (by decide) (fun c_2 => ?_) (fun c_2 => ?_)
    · have tc_2 := t_le c_2
      refine lv_iconst (v := 0) hx hb dX4_has_16 (by decide) ?_
      exact hret 0 _ _ (show ((0 : Int32).toInt = 1 ∧ 0 ≤ i.toInt ∧ i.toInt < v_size.toInt) ∨ ((0 : Int32).toInt = 0 ∧ (i.toInt < 0 ∨ v_size.toInt ≤ i.toInt)) from by omega) rfl dX4_has_17
    · have tc_2 := t_nle c_2
      refine lv_iconst (v := 1) hx hb dX4_has_12 (by decide) ?_
      refine lv_goto (tgt := 17) hx hb dX4_has_13 (by decide) ?_
      exact hret 1 _ _ (show ((1 : Int32).toInt = 1 ∧ 0 ≤ i.toInt ∧ i.toInt < v_size.toInt) ∨ ((1 : Int32).toInt = 0 ∧ (i.toInt < 0 ∨ v_size.toInt ≤ i.toInt)) from by omega) rfl dX4_has_17

theorem in_g_sum_X4 : ∀ w ∈ wsX40, w ∈ wsX4_sum := tl_X4_sum_X4
set_option maxHeartbeats 8000000 in
set_option maxRecDepth 100000 in
theorem g_sum {l : Launch} {D : va_G} {cI cZ cB : ClassId} {h a_weekly a_doubled a_dueOn a_owed a_said a_spared a_leaveOf a_leaveFrom a_leaveTo : Nat} {v_size v_rows : Int32} {am : Nat} {fm : Nat → Int32} (hv_size0 : 0 ≤ v_size.toInt) (hv_size1 : v_size.toInt ≤ 40) : Met l yX4_sum wsX4_sum ({ frames := 0, cells := 0, slots := 0, locals := 0 }) (RO D cI cZ cB [.ref h, .ref am] [(h, .inr (4, [.ref a_weekly, .ref a_doubled, .ref a_dueOn, .ref a_owed, .ref a_said, .ref a_spared, .ref a_leaveOf, .ref a_leaveFrom, .ref a_leaveTo, .int v_size, .int v_rows])), (am, .inl (cI, 40, .inl fm))]) (vp_Si (fun r : Int32 => v_size.toInt = 0 → r.toInt = 0)) 0 0 (fun _ => False) := by
  refine ro_ret (cc := cX4_sum) (maxL := 4) (ty := .int) (own := RX4) (by decide) rfl rfl (Nat.le_of_ble_eq_true rfl) ?_
  intro p e s m args below meth c Q S hret hP hK ls hl
  obtain ⟨hx, hb, hml, hown, hts⟩ := id S
  have hl : lv_has ls 4 [(0, .ref h), (1, .ref am)] := hl
  have kk0 : (0 : Int32).toInt = 0 := by decide
  have kk1 : (1 : Int32).toInt = 1 := by decide
  have lk0 := hts (.fieldLink RX4 40 "AbbeyHours$Gifts" "size" "I") (List.mem_cons_of_mem _ (List.mem_append_left _ (List.mem_of_getElem? (i := 0) rfl)))
  refine lv_iconst (v := 0) hx hb dX4_sum_0 (by decide) ?_
  refine lv_istore_n (lv' := [(2, .int 0), (0, .ref h), (1, .ref am)]) hx hb dX4_sum_1 rfl hl (by decide) rfl (fun ls hl => ?_)
  refine lv_iconst (v := 0) hx hb dX4_sum_2 (by decide) ?_
  refine lv_istore_n (lv' := [(3, .int 0), (2, .int 0), (0, .ref h), (1, .ref am)]) hx hb dX4_sum_3 rfl hl (by decide) rfl (fun ls hl => ?_)
  have loop4 : ∀ (fuel : Nat) (a : Int32) (j : Int32), v_size.toInt - j.toInt < (fuel : Int) → (0 ≤ j.toInt) → (j.toInt ≤ v_size.toInt) → (v_size.toInt = 0 → a.toInt = 0) → ∀ ls : Array Slot, lv_has ls 4 [(3, .int j), (2, .int a), (0, .ref h), (1, .ref am)] → W p l e ({ frames := 0, cells := 0, slots := 0, locals := 0 } : Room) s m args below meth c s.heap [] 0 0 Q (F0 m 4 ls []) := by
    intro fuel
    induction fuel with
    | zero =>
      intro a j hmu hj0 hj1 ha ls hl
      exfalso; omega
    | succ fuel ih4 =>
      intro a j hmu hj0 hj1 ha ls hl
      refine lv_iload_n hx hb dX4_sum_4 rfl (lv_at hl 0 rfl) ?_
      refine lv_aload_n hx hb dX4_sum_5 rfl (lv_at hl 2 rfl) ?_
      refine va_get (D := D) (ci := 4) (v := .int v_size) (C := RX4) (T := TX4) (N := 11) hx hb hts in_g_sum_X4 hown hK.1 hP 0 rfl rfl 9 (by decide) lk0 (fun _ h9 => h9) rfl dX4_sum_6 ?_
      refine lv_icmp_ge (tgt := 24) hx hb dX4_sum_9 (by decide) (fun c_1 => ?_) (fun c_1 => ?_)
      · have tc_1 := t_le c_1
        refine lv_iload_n hx hb dX4_sum_24 rfl (lv_at hl 1 rfl) ?_
        exact hret a _ _ (show v_size.toInt = 0 → a.toInt = 0 from by omega) rfl dX4_sum_25
      · have tc_1 := t_nle c_1
        refine lv_iload_n hx hb dX4_sum_12 rfl (lv_at hl 1 rfl) ?_
        refine lv_aload_n hx hb dX4_sum_13 rfl (lv_at hl 3 rfl) ?_
        refine lv_iload_n hx hb dX4_sum_14 rfl (lv_at hl 0 rfl) ?_
        refine va_iald hx hb hK.1 hP 1 0 rfl rfl (t_in (by omega) (by omega)) dX4_sum_15 ?_
        refine lv_topi (fun y_2 ey_2 => ?_)
        refine lv_iadd hx hb dX4_sum_16 ?_
        refine lv_topi (fun x_3 ex_3 => ?_)
        refine lv_istore_n (lv' := [(2, .int x_3), (3, .int j), (0, .ref h), (1, .ref am)]) hx hb dX4_sum_17 rfl hl (by decide) rfl (fun ls hl => ?_)
        obtain ⟨x_4, ex_4⟩ : ∃ y : Int32, y = j + 1 := ⟨_, rfl⟩
        refine lv_iinc (v := x_4) (lv' := [(3, .int x_4), (2, .int x_3), (0, .ref h), (1, .ref am)]) hx hb dX4_sum_18 hl (k := 1) rfl (by rw [ex_4]; rfl) (by decide) rfl (fun ls hl => ?_)
        first | have tx_4 := t_add ex_4 (by omega) (by omega) | skip
        refine lv_goto (tgt := 4) hx hb dX4_sum_21 (by decide) ?_
        exact ih4 x_3 x_4 (by omega) (by omega) (by omega) (by omega) ls (lv_sub hl [0, 1, 2, 3] rfl)
  exact loop4 ((v_size.toInt - (0 : Int32).toInt).toNat + 1) 0 0 (by omega) (by omega) (by omega) (by omega) ls (lv_sub hl [0, 1, 2, 3] rfl)

theorem in_g_owedInAll_X4 : ∀ w ∈ wsX40, w ∈ wsX4_owedInAll := tl_X4_owedInAll_X4
set_option maxHeartbeats 8000000 in
set_option maxRecDepth 100000 in
theorem g_owedInAll {l : Launch} {D : va_G} {cI cZ cB : ClassId} {h a_weekly a_doubled a_dueOn a_owed a_said a_spared a_leaveOf a_leaveFrom a_leaveTo : Nat} {v_size v_rows : Int32} {f_owed : Nat → Int32} (hv_size0 : 0 ≤ v_size.toInt) (hv_size1 : v_size.toInt ≤ 40) : Met l yX4_owedInAll wsX4_owedInAll ({ frames := 1, cells := 0, slots := 0, locals := 23 }) (RO D cI cZ cB [.ref h] [(h, .inr (4, [.ref a_weekly, .ref a_doubled, .ref a_dueOn, .ref a_owed, .ref a_said, .ref a_spared, .ref a_leaveOf, .ref a_leaveFrom, .ref a_leaveTo, .int v_size, .int v_rows])), (a_owed, .inl (cI, 40, .inl f_owed))]) (vp_Si (fun r : Int32 => v_size.toInt = 0 → r.toInt = 0)) 0 0 (fun _ => False) := by
  refine ro_ret (cc := cX4_owedInAll) (maxL := 1) (ty := .int) (own := RX4) (by decide) rfl rfl (Nat.le_of_ble_eq_true rfl) ?_
  intro p e s m args below meth c Q S hret hP hK ls hl
  obtain ⟨hx, hb, hml, hown, hts⟩ := id S
  have hl : lv_has ls 1 [(0, .ref h)] := hl
  have kk0 : (0 : Int32).toInt = 0 := by decide
  have lk0 := hts (.fieldLink RX4 22 "AbbeyHours$Gifts" "owed" "[I") (List.mem_cons_of_mem _ (List.mem_append_left _ (List.mem_of_getElem? (i := 0) rfl)))
  refine lv_aload_n hx hb dX4_owedInAll_0 rfl (lv_at hl 0 rfl) ?_
  refine lv_aload_n hx hb dX4_owedInAll_1 rfl (lv_at hl 0 rfl) ?_
  refine va_get (D := D) (ci := 4) (v := .ref a_owed) (C := RX4) (T := TX4) (N := 11) hx hb hts in_g_owedInAll_X4 hown hK.1 hP 0 rfl rfl 3 (by decide) lk0 (fun _ h9 => h9) rfl dX4_owedInAll_2 ?_
  have hPc := hP.sub (ws' := [(h, .inr (4, [.ref a_weekly, .ref a_doubled, .ref a_dueOn, .ref a_owed, .ref a_said, .ref a_spared, .ref a_leaveOf, .ref a_leaveFrom, .ref a_leaveTo, .int v_size, .int v_rows])), (a_owed, .inl (cI, 40, .inl f_owed))]) [0, 1] rfl
  refine roV (As := [.ref a_owed]) (rest := []) S (g_sum  (by omega) (by omega)) (cwV 1 hts gX4_owedInAll_X4_sum rfl rfl rfl ⟨rfl, hd_X4_sum⟩ ⟨Nat.le_of_ble_eq_true rfl, Nat.le_of_ble_eq_true rfl⟩) hK hPc (va_recv hK.1 hPc (ci := 4) (q0 := 0) rfl rfl) rfl hl.1 rfl (Nat.le_of_ble_eq_true rfl) dX4_owedInAll_5 ⟨Nat.le_of_ble_eq_true rfl, Nat.le_of_ble_eq_true rfl⟩ (fun r_1 hw_1 => ?_)
  have hw_1 : v_size.toInt = 0 → r_1.toInt = 0 := hw_1
  exact hret r_1 _ _ (show v_size.toInt = 0 → r_1.toInt = 0 from by omega) rfl dX4_owedInAll_8

theorem in_g_saidInAll_X4 : ∀ w ∈ wsX40, w ∈ wsX4_saidInAll := tl_X4_saidInAll_X4
set_option maxHeartbeats 8000000 in
set_option maxRecDepth 100000 in
theorem g_saidInAll {l : Launch} {D : va_G} {cI cZ cB : ClassId} {h a_weekly a_doubled a_dueOn a_owed a_said a_spared a_leaveOf a_leaveFrom a_leaveTo : Nat} {v_size v_rows : Int32} {f_said : Nat → Int32} (hv_size0 : 0 ≤ v_size.toInt) (hv_size1 : v_size.toInt ≤ 40) : Met l yX4_saidInAll wsX4_saidInAll ({ frames := 1, cells := 0, slots := 0, locals := 23 }) (RO D cI cZ cB [.ref h] [(h, .inr (4, [.ref a_weekly, .ref a_doubled, .ref a_dueOn, .ref a_owed, .ref a_said, .ref a_spared, .ref a_leaveOf, .ref a_leaveFrom, .ref a_leaveTo, .int v_size, .int v_rows])), (a_said, .inl (cI, 40, .inl f_said))]) (vp_Si (fun r : Int32 => v_size.toInt = 0 → r.toInt = 0)) 0 0 (fun _ => False) := by
  refine ro_ret (cc := cX4_saidInAll) (maxL := 1) (ty := .int) (own := RX4) (by decide) rfl rfl (Nat.le_of_ble_eq_true rfl) ?_
  intro p e s m args below meth c Q S hret hP hK ls hl
  obtain ⟨hx, hb, hml, hown, hts⟩ := id S
  have hl : lv_has ls 1 [(0, .ref h)] := hl
  have kk0 : (0 : Int32).toInt = 0 := by decide
  have lk0 := hts (.fieldLink RX4 25 "AbbeyHours$Gifts" "said" "[I") (List.mem_cons_of_mem _ (List.mem_append_left _ (List.mem_of_getElem? (i := 0) rfl)))
  refine lv_aload_n hx hb dX4_saidInAll_0 rfl (lv_at hl 0 rfl) ?_
  refine lv_aload_n hx hb dX4_saidInAll_1 rfl (lv_at hl 0 rfl) ?_
  refine va_get (D := D) (ci := 4) (v := .ref a_said) (C := RX4) (T := TX4) (N := 11) hx hb hts in_g_saidInAll_X4 hown hK.1 hP 0 rfl rfl 4 (by decide) lk0 (fun _ h9 => h9) rfl dX4_saidInAll_2 ?_
  have hPc := hP.sub (ws' := [(h, .inr (4, [.ref a_weekly, .ref a_doubled, .ref a_dueOn, .ref a_owed, .ref a_said, .ref a_spared, .ref a_leaveOf, .ref a_leaveFrom, .ref a_leaveTo, .int v_size, .int v_rows])), (a_said, .inl (cI, 40, .inl f_said))]) [0, 1] rfl
  refine roV (As := [.ref a_said]) (rest := []) S (g_sum  (by omega) (by omega)) (cwV 1 hts gX4_saidInAll_X4_sum rfl rfl rfl ⟨rfl, hd_X4_sum⟩ ⟨Nat.le_of_ble_eq_true rfl, Nat.le_of_ble_eq_true rfl⟩) hK hPc (va_recv hK.1 hPc (ci := 4) (q0 := 0) rfl rfl) rfl hl.1 rfl (Nat.le_of_ble_eq_true rfl) dX4_saidInAll_5 ⟨Nat.le_of_ble_eq_true rfl, Nat.le_of_ble_eq_true rfl⟩ (fun r_1 hw_1 => ?_)
  have hw_1 : v_size.toInt = 0 → r_1.toInt = 0 := hw_1
  exact hret r_1 _ _ (show v_size.toInt = 0 → r_1.toInt = 0 from by omega) rfl dX4_saidInAll_8

