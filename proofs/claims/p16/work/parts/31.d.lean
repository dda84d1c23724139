theorem in_e_isDue_X4 : ∀ w ∈ wsX40, w ∈ wsX4_isDue := tl_X4_isDue_X4
set_option maxHeartbeats 8000000 in
set_option maxRecDepth 100000 in
theorem e_isDue {l : Launch} {D : va_G} {cI cZ cB : ClassId} {h a_weekly a_doubled a_dueOn a_owed a_said a_spared a_leaveOf a_leaveFrom a_leaveTo : Nat} {v_size v_rows : Int32} {f_weekly f_dueOn : Nat → Int32} {i d : Int32} (hi0 : 0 ≤ i.toInt) (hi1 : i.toInt < 40) : Met l yX4_isDue wsX4_isDue ({ frames := 0, cells := 0, slots := 0, locals := 0 }) (RO D cI cZ cB [.ref h, .int i, .int d] [(h, .inr (4, [.ref a_weekly, .ref a_doubled, .ref a_dueOn, .ref a_owed, .ref a_said, .ref a_spared, .ref a_leaveOf, .ref a_leaveFrom, .ref a_leaveTo, .int v_size, .int v_rows])), (a_weekly, .inl (cZ, 40, .inl f_weekly)), (a_dueOn, .inl (cI, 40, .inl f_dueOn))]) (vp_Si (fun r : Int32 => (r.toInt = 1 ∧ DueP f_weekly f_dueOn i d) ∨ (r.toInt = 0 ∧ ¬ DueP f_weekly f_dueOn i d))) 0 0 (fun _ => False) := by
  refine ro_ret (cc := cX4_isDue) (maxL := 3) (ty := .boolean) (own := RX4) (by decide) rfl rfl (Nat.le_of_ble_eq_true rfl) ?_
  intro p e s m args below meth c Q S hret hP hK ls hl
  obtain ⟨hx, hb, hml, hown, hts⟩ := id S
  have hl : lv_has ls 3 [(0, .ref h), (1, .int i), (2, .int d)] := hl
  have kk0 : (0 : Int32).toInt = 0 := by decide
  have kk1 : (1 : Int32).toInt = 1 := by decide
  have kk7 : (7 : Int32).toInt = 7 := by decide
  have kk365 : (365 : Int32).toInt = 365 := by decide
  have lk0 := hts (.fieldLink RX4 18 "AbbeyHours$Gifts" "dueOn" "[I") (List.mem_cons_of_mem _ (List.mem_append_left _ (List.mem_of_getElem? (i := 0) rfl)))
  have lk1 := hts (.fieldLink RX4 11 "AbbeyHours$Gifts" "weekly" "[Z") (List.mem_cons_of_mem _ (List.mem_append_left _ (List.mem_of_getElem? (i := 1) rfl)))
  refine lv_aload_n hx hb dX4_isDue_0 rfl (lv_at hl 0 rfl) ?_
  refine va_get (D := D) (ci := 4) (v := .ref a_dueOn) (C := RX4) (T := TX4) (N := 11) hx hb hts in_e_isDue_X4 hown hK.1 hP 0 rfl rfl 2 (by decide) lk0 (fun _ h9 => h9) rfl dX4_isDue_1 ?_
  refine lv_iload_n hx hb dX4_isDue_4 rfl (lv_at hl 1 rfl) ?_
  refine va_iald hx hb hK.1 hP 2 0 rfl rfl (t_in (by omega) (by omega)) dX4_isDue_5 ?_
  refine lv_topi (fun yd eyd => ?_)
  refine lv_aload_n hx hb dX4_isDue_6 rfl (lv_at hl 0 rfl) ?_
  refine va_get (D := D) (ci := 4) (v := .ref a_weekly) (C := RX4) (T := TX4) (N := 11) hx hb hts in_e_isDue_X4 hown hK.1 hP 0 rfl rfl 0 (by decide) lk1 (fun _ h9 => h9) rfl dX4_isDue_7 ?_
  refine lv_iload_n hx hb dX4_isDue_10 rfl (lv_at hl 1 rfl) ?_
  refine va_zald hx hb hK.1 hP 1 1 rfl rfl (t_in (by omega) (by omega)) dX4_isDue_11 ?_
  refine lv_topi (fun yw eyw => ?_)
  refine lv_if_eq (tgt := 22) hx hb dX4_isDue_12 (by decide) (fun cw => ?_) (fun cw => ?_)
  · have tcw := t_eq cw
    refine lv_iload_n hx hb dX4_isDue_22 rfl (lv_at hl 2 rfl) ?_
    refine lv_sipush (v := 365) hx hb dX4_isDue_23 (by decide) ?_
    refine lv_irem hx hb dX4_isDue_26 (by decide) ?_
    refine lv_topi (fun m3 em3 => ?_)
    refine lv_icmp_ne (tgt := 34) hx hb dX4_isDue_27 (by decide) (fun cc => ?_) (fun cc => ?_)
    · have tcc := t_neq cc
      refine lv_iconst (v := 0) hx hb dX4_isDue_34 (by decide) ?_
      exact hret 0 _ _ (show ((0 : Int32).toInt = 1 ∧ DueP f_weekly f_dueOn i d) ∨ ((0 : Int32).toInt = 0 ∧ ¬ DueP f_weekly f_dueOn i d) from by first | exact Or.inl ⟨by omega, by unfold DueP; rw [← eyd, ← eyw]; first | (rw [if_neg cw]; exact cc.trans em7) | (rw [if_pos cw]; exact cc.trans em3)⟩ | exact Or.inr ⟨by omega, by unfold DueP; rw [← eyd, ← eyw]; first | (rw [if_neg cw]; exact fun h => cc (h.trans em7.symm)) | (rw [if_pos cw]; exact fun h => cc (h.trans em3.symm))⟩) rfl dX4_isDue_35
    · have tcc := t_eq cc
      refine lv_iconst (v := 1) hx hb dX4_isDue_30 (by decide) ?_
      refine lv_goto (tgt := 35) hx hb dX4_isDue_31 (by decide) ?_
      exact hret 1 _ _ (show ((1 : Int32).toInt = 1 ∧ DueP f_weekly f_dueOn i d) ∨ ((1 : Int32).toInt = 0 ∧ ¬ DueP f_weekly f_dueOn i d) from by first | exact Or.inl ⟨by omega, by unfold DueP; rw [← eyd, ← eyw]; first | (rw [if_neg cw]; exact cc.trans em7) | (rw [if_pos cw]; exact cc.trans em3)⟩ | exact Or.inr ⟨by omega, by unfold DueP; rw [← eyd, ← eyw]; first | (rw [if_neg cw]; exact fun h => cc (h.trans em7.symm)) | (rw [if_pos cw]; exact fun h => cc (h.trans em3.symm))⟩) rfl dX4_isDue_35
  · have tcw := t_neq cw
    refine lv_iload_n hx hb dX4_isDue_15 rfl (lv_at hl 2 rfl) ?_
    refine lv_bipush (v := 7) hx hb dX4_isDue_16 (by decide) ?_
    refine lv_irem hx hb dX4_isDue_18 (by decide) ?_
    refine lv_topi (fun m7 em7 => ?_)
    refine lv_goto (tgt := 27) hx hb dX4_isDue_19 (by decide) ?_
    refine lv_icmp_ne (tgt := 34) hx hb dX4_isDue_27 (by decide) (fun cc => ?_) (fun cc => ?_)
    · have tcc := t_neq cc
      refine lv_iconst (v := 0) hx hb dX4_isDue_34 (by decide) ?_
      exact hret 0 _ _ (show ((0 : Int32).toInt = 1 ∧ DueP f_weekly f_dueOn i d) ∨ ((0 : Int32).toInt = 0 ∧ ¬ DueP f_weekly f_dueOn i d) from by first | exact Or.inl ⟨by omega, by unfold DueP; rw [← eyd, ← eyw]; first | (rw [if_neg cw]; exact cc.trans em7) | (rw [if_pos cw]; exact cc.trans em3)⟩ | exact Or.inr ⟨by omega, by unfold DueP; rw [← eyd, ← eyw]; first | (rw [if_neg cw]; exact fun h => cc (h.trans em7.symm)) | (rw [if_pos cw]; exact fun h => cc (h.trans em3.symm))⟩) rfl dX4_isDue_35
    · have tcc := t_eq cc
      refine lv_iconst (v := 1) hx hb dX4_isDue_30 (by decide) ?_
      refine lv_goto (tgt := 35) hx hb dX4_isDue_31 (by decide) ?_
      exact hret 1 _ _ (show ((1 : Int32).toInt = 1 ∧ DueP f_weekly f_dueOn i d) ∨ ((1 : Int32).toInt = 0 ∧ ¬ DueP f_weekly f_dueOn i d) from by first | exact Or.inl ⟨by omega, by unfold DueP; rw [← eyd, ← eyw]; first | (rw [if_neg cw]; exact cc.trans em7) | (rw [if_pos cw]; exact cc.trans em3)⟩ | exact Or.inr ⟨by omega, by unfold DueP; rw [← eyd, ← eyw]; first | (rw [if_neg cw]; exact fun h => cc (h.trans em7.symm)) | (rw [if_pos cw]; exact fun h => cc (h.trans em3.symm))⟩) rfl dX4_isDue_35

theorem in_e_hasLeave_X4 : ∀ w ∈ wsX40, w ∈ wsX4_hasLeave := tl_X4_hasLeave_X4
set_option maxHeartbeats 8000000 in
set_option maxRecDepth 100000 in
theorem e_hasLeave {l : Launch} {D : va_G} {cI cZ cB : ClassId} {h a_weekly a_doubled a_dueOn a_owed a_said a_spared a_leaveOf a_leaveFrom a_leaveTo : Nat} {v_size v_rows : Int32} {f_leaveOf f_leaveFrom f_leaveTo : Nat → Int32} {i d : Int32} (hv_rows0 : 0 ≤ v_rows.toInt) (hv_rows1 : v_rows.toInt ≤ 40) : Met l yX4_hasLeave wsX4_hasLeave ({ frames := 1, cells := 0, slots := 0, locals := 22 }) (RO D cI cZ cB [.ref h, .int i, .int d] [(h, .inr (4, [.ref a_weekly, .ref a_doubled, .ref a_dueOn, .ref a_owed, .ref a_said, .ref a_spared, .ref a_leaveOf, .ref a_leaveFrom, .ref a_leaveTo, .int v_size, .int v_rows])), (a_leaveOf, .inl (cI, 40, .inl f_leaveOf)), (a_leaveFrom, .inl (cI, 40, .inl f_leaveFrom)), (a_leaveTo, .inl (cI, 40, .inl f_leaveTo))]) (vp_Si (fun r : Int32 => (r.toInt = 1 ∧ LeaveP f_leaveOf f_leaveFrom f_leaveTo v_rows.toInt i d) ∨ (r.toInt = 0 ∧ ¬ LeaveP f_leaveOf f_leaveFrom f_leaveTo v_rows.toInt i d))) 0 0 (fun _ => False) := by
  refine ro_ret (cc := cX4_hasLeave) (maxL := 4) (ty := .boolean) (own := RX4) (by decide) rfl rfl (Nat.le_of_ble_eq_true rfl) ?_
  intro p e s m args below meth c Q S hret hP hK ls hl
  obtain ⟨hx, hb, hml, hown, hts⟩ := id S
  have hl : lv_has ls 4 [(0, .ref h), (1, .int i), (2, .int d)] := hl
  have kk0 : (0 : Int32).toInt = 0 := by decide
  have kk1 : (1 : Int32).toInt = 1 := by decide
  have lk0 := hts (.fieldLink RX4 44 "AbbeyHours$Gifts" "rows" "I") (List.mem_cons_of_mem _ (List.mem_append_left _ (List.mem_of_getElem? (i := 0) rfl)))
  have lk1 := hts (.fieldLink RX4 31 "AbbeyHours$Gifts" "leaveOf" "[I") (List.mem_cons_of_mem _ (List.mem_append_left _ (List.mem_of_getElem? (i := 1) rfl)))
  have lk2 := hts (.fieldLink RX4 34 "AbbeyHours$Gifts" "leaveFrom" "[I") (List.mem_cons_of_mem _ (List.mem_append_left _ (List.mem_of_getElem? (i := 2) rfl)))
  have lk3 := hts (.fieldLink RX4 37 "AbbeyHours$Gifts" "leaveTo" "[I") (List.mem_cons_of_mem _ (List.mem_append_left _ (List.mem_of_getElem? (i := 3) rfl)))
  have lk4 := hts (.initialized RX11) (List.mem_cons_of_mem _ (List.mem_append_left _ (List.mem_of_getElem? (i := 5) rfl)))
  have lk5 := hts (.static yX11_within) (List.mem_cons_of_mem _ (List.mem_append_left _ (List.mem_of_getElem? (i := 4) rfl)))
  refine lv_iconst (v := 0) hx hb dX4_hasLeave_0 (by decide) ?_
  refine lv_istore_n (lv' := [(3, .int 0), (0, .ref h), (1, .int i), (2, .int d)]) hx hb dX4_hasLeave_1 rfl hl (by decide) rfl (fun ls hl => ?_)
  have loop2 : ∀ (fuel : Nat) (j : Int32), v_rows.toInt - j.toInt < (fuel : Int) → (0 ≤ j.toInt) → (j.toInt ≤ v_rows.toInt) → (Al (fun q => ¬ AbsP f_leaveOf f_leaveFrom f_leaveTo i d q) j.toInt) → ∀ ls : Array Slot, lv_has ls 4 [(3, .int j), (0, .ref h), (1, .int i), (2, .int d)] → W p l e ({ frames := 1, cells := 0, slots := 0, locals := 22 } : Room) s m args below meth c s.heap [] 0 0 Q (F0 m 2 ls []) := by
    intro fuel
    induction fuel with
    | zero =>
      intro j hmu hj0 hj1 hal ls hl
      exfalso; omega
    | succ fuel ih2 =>
      intro j hmu hj0 hj1 hal ls hl
      refine lv_iload_n hx hb dX4_hasLeave_2 rfl (lv_at hl 0 rfl) ?_
      refine lv_aload_n hx hb dX4_hasLeave_3 rfl (lv_at hl 1 rfl) ?_
      refine va_get (D := D) (ci := 4) (v := .int v_rows) (C := RX4) (T := TX4) (N := 11) hx hb hts in_e_hasLeave_X4 hown hK.1 hP 0 rfl rfl 10 (by decide) lk0 (fun _ h9 => h9) rfl dX4_hasLeave_4 ?_
      refine lv_icmp_ge (tgt := 47) hx hb dX4_hasLeave_7 (by decide) (fun c_1 => ?_) (fun c_1 => ?_)
      · have tc_1 := t_le c_1
        refine lv_iconst (v := 0) hx hb dX4_hasLeave_47 (by decide) ?_
        exact hret 0 _ _ (show ((0 : Int32).toInt = 1 ∧ LeaveP f_leaveOf f_leaveFrom f_leaveTo v_rows.toInt i d) ∨ ((0 : Int32).toInt = 0 ∧ ¬ LeaveP f_leaveOf f_leaveFrom f_leaveTo v_rows.toInt i d) from Or.inr ⟨by omega, fun h => h (hal.to (by omega))⟩) rfl dX4_hasLeave_48
      · have tc_1 := t_nle c_1
        refine lv_aload_n hx hb dX4_hasLeave_10 rfl (lv_at hl 1 rfl) ?_
        refine va_get (D := D) (ci := 4) (v := .ref a_leaveOf) (C := RX4) (T := TX4) (N := 11) hx hb hts in_e_hasLeave_X4 hown hK.1 hP 0 rfl rfl 6 (by decide) lk1 (fun _ h9 => h9) rfl dX4_hasLeave_11 ?_
        refine lv_iload_n hx hb dX4_hasLeave_14 rfl (lv_at hl 0 rfl) ?_
        refine va_iald hx hb hK.1 hP 1 0 rfl rfl (t_in (by omega) (by omega)) dX4_hasLeave_15 ?_
        refine lv_topi (fun ya eya => ?_)
        refine lv_iload_n hx hb dX4_hasLeave_16 rfl (lv_at hl 2 rfl) ?_
        refine lv_icmp_ne (tgt := 41) hx hb dX4_hasLeave_17 (by decide) (fun c_3 => ?_) (fun c_3 => ?_)
        · have tc_3 := t_neq c_3
          obtain ⟨x_4, ex_4⟩ : ∃ y : Int32, y = j + 1 := ⟨_, rfl⟩
          refine lv_iinc (v := x_4) (lv' := [(3, .int x_4), (0, .ref h), (1, .int i), (2, .int d)]) hx hb dX4_hasLeave_41 hl (k := 0) rfl (by rw [ex_4]; rfl) (by decide) rfl (fun ls hl => ?_)
          first | have tx_4 := t_add ex_4 (by omega) (by omega) | skip
          refine lv_goto (tgt := 2) hx hb dX4_hasLeave_44 (by decide) ?_
          exact ih2 x_4 (by omega) (by omega) (by omega) (hal.up (i := j) (by omega) (fun h => by have h1 := h.1; have h2 := h.2; rw [← eya] at h1; first | (have := t_eq h1; omega) | (rw [← eyf, ← eyt] at h2; omega)) (by omega)) ls (lv_sub hl [0, 1, 2, 3] rfl)
        · have tc_3 := t_eq c_3
          refine lv_iload_n hx hb dX4_hasLeave_20 rfl (lv_at hl 3 rfl) ?_
          refine lv_aload_n hx hb dX4_hasLeave_21 rfl (lv_at hl 1 rfl) ?_
          refine va_get (D := D) (ci := 4) (v := .ref a_leaveFrom) (C := RX4) (T := TX4) (N := 11) hx hb hts in_e_hasLeave_X4 hown hK.1 hP 0 rfl rfl 7 (by decide) lk2 (fun _ h9 => h9) rfl dX4_hasLeave_22 ?_
          refine lv_iload_n hx hb dX4_hasLeave_25 rfl (lv_at hl 0 rfl) ?_
          refine va_iald hx hb hK.1 hP 2 0 rfl rfl (t_in (by omega) (by omega)) dX4_hasLeave_26 ?_
          refine lv_topi (fun yf eyf => ?_)
          refine lv_aload_n hx hb dX4_hasLeave_27 rfl (lv_at hl 1 rfl) ?_
          refine va_get (D := D) (ci := 4) (v := .ref a_leaveTo) (C := RX4) (T := TX4) (N := 11) hx hb hts in_e_hasLeave_X4 hown hK.1 hP 0 rfl rfl 8 (by decide) lk3 (fun _ h9 => h9) rfl dX4_hasLeave_28 ?_
          refine lv_iload_n hx hb dX4_hasLeave_31 rfl (lv_at hl 0 rfl) ?_
          refine va_iald hx hb hK.1 hP 3 0 rfl rfl (t_in (by omega) (by omega)) dX4_hasLeave_32 ?_
          refine lv_topi (fun yt eyt => ?_)
          have hPc := hP.sub (ws' := []) [] rfl
          refine roSN (As := [.int d, .int yf, .int yt]) (rest := []) S (w_within  ) (⟨va_cnB 3 hts gX4_hasLeave_X11_within_n66 rfl rfl rfl (hK.2.1 _ (List.mem_of_getElem? (i := 9) rfl)) lk4 (by decide +kernel) ⟨Nat.le_of_ble_eq_true rfl, Nat.le_of_ble_eq_true rfl⟩, lk5, trivial⟩) hK hPc rfl hl.1 rfl (Nat.le_of_ble_eq_true rfl) dX4_hasLeave_33 ⟨Nat.le_of_ble_eq_true rfl, Nat.le_of_ble_eq_true rfl⟩ (fun r_7 hw_7 => ?_)
          have hw_7 : (r_7.toInt = 1 ∧ yf.toInt ≤ d.toInt ∧ d.toInt ≤ yt.toInt) ∨ (r_7.toInt = 0 ∧ (d.toInt < yf.toInt ∨ yt.toInt < d.toInt)) := hw_7
          refine lv_if_eq (tgt := 41) hx hb dX4_hasLeave_36 (by decide) (fun c_8 => ?_) (fun c_8 => ?_)
          · have tc_8 := t_eq c_8
            obtain ⟨x_9, ex_9⟩ : ∃ y : Int32, y = j + 1 := ⟨_, rfl⟩
            refine lv_iinc (v := x_9) (lv' := [(3, .int x_9), (0, .ref h), (1, .int i), (2, .int d)]) hx hb dX4_hasLeave_41 hl (k := 0) rfl (by rw [ex_9]; rfl) (by decide) rfl (fun ls hl => ?_)
            first | have tx_9 := t_add ex_9 (by omega) (by omega) | skip
            refine lv_goto (tgt := 2) hx hb dX4_hasLeave_44 (by decide) ?_
            exact ih2 x_9 (by omega) (by omega) (by omega) (hal.up (i := j) (by omega) (fun h => by have h1 := h.1; have h2 := h.2; rw [← eya] at h1; first | (have := t_eq h1; omega) | (rw [← eyf, ← eyt] at h2; omega)) (by omega)) ls (lv_sub hl [0, 1, 2, 3] rfl)
          · have tc_8 := t_neq c_8
            refine lv_iconst (v := 1) hx hb dX4_hasLeave_39 (by decide) ?_
            exact hret 1 _ _ (show ((1 : Int32).toInt = 1 ∧ LeaveP f_leaveOf f_leaveFrom f_leaveTo v_rows.toInt i d) ∨ ((1 : Int32).toInt = 0 ∧ ¬ LeaveP f_leaveOf f_leaveFrom f_leaveTo v_rows.toInt i d) from Or.inl ⟨by omega, Al.no (i := j) (by omega) (by omega) (fun q => q ⟨by rw [← eya]; exact i32_ext (by omega), by rw [← eyf]; omega, by rw [← eyt]; omega⟩)⟩) rfl dX4_hasLeave_40
  exact loop2 ((v_rows.toInt - (0 : Int32).toInt).toNat + 1) 0 (by omega) (by omega) (by omega) (Al.zero (by omega)) ls (lv_sub hl [0, 1, 2, 3] rfl)

theorem in_e_fallDue_X4 : ∀ w ∈ wsX40, w ∈ wsX4_fallDue := tl_X4_fallDue_X4
set_option maxHeartbeats 8000000 in
set_option maxRecDepth 100000 in
theorem e_fallDue {l : Launch} {D : va_G} {cI cZ cB : ClassId} {sz : Nat} {h a_weekly a_doubled a_dueOn a_owed a_said a_spared a_leaveOf a_leaveFrom a_leaveTo : Nat} {v_size v_rows : Int32} {f_weekly f_doubled f_dueOn f_owed f_spared f_leaveOf f_leaveFrom f_leaveTo : Nat → Int32} {d : Int32} (hv_size0 : 0 ≤ v_size.toInt) (hv_size1 : v_size.toInt ≤ 40) (hv_rows0 : 0 ≤ v_rows.toInt) (hv_rows1 : v_rows.toInt ≤ 40) : Met l yX4_fallDue wsX4_fallDue ({ frames := 2, cells := 0, slots := 0, locals := 45 }) (RW D cI cZ cB [.ref h, .int d] sz [(h, .inr (4, [.ref a_weekly, .ref a_doubled, .ref a_dueOn, .ref a_owed, .ref a_said, .ref a_spared, .ref a_leaveOf, .ref a_leaveFrom, .ref a_leaveTo, .int v_size, .int v_rows])), (a_weekly, .inl (cZ, 40, .inl f_weekly)), (a_doubled, .inl (cZ, 40, .inl f_doubled)), (a_dueOn, .inl (cI, 40, .inl f_dueOn)), (a_owed, .inl (cI, 40, .inl f_owed)), (a_spared, .inl (cI, 40, .inl f_spared)), (a_leaveOf, .inl (cI, 40, .inl f_leaveOf)), (a_leaveFrom, .inl (cI, 40, .inl f_leaveFrom)), (a_leaveTo, .inl (cI, 40, .inl f_leaveTo))]) (va_Qv (fun u : (Nat → Int32) × (Nat → Int32) => OweR (dueQ f_weekly f_dueOn d) (leaveQ f_leaveOf f_leaveFrom f_leaveTo v_rows.toInt d) f_doubled v_size.toNatClampNeg f_owed f_spared u.1 u.2) (BW D [(h, .inr (4, [.ref a_weekly, .ref a_doubled, .ref a_dueOn, .ref a_owed, .ref a_said, .ref a_spared, .ref a_leaveOf, .ref a_leaveFrom, .ref a_leaveTo, .int v_size, .int v_rows])), (a_weekly, .inl (cZ, 40, .inl f_weekly)), (a_doubled, .inl (cZ, 40, .inl f_doubled)), (a_dueOn, .inl (cI, 40, .inl f_dueOn)), (a_owed, .inl (cI, 40, .inl f_owed)), (a_spared, .inl (cI, 40, .inl f_spared)), (a_leaveOf, .inl (cI, 40, .inl f_leaveOf)), (a_leaveFrom, .inl (cI, 40, .inl f_leaveFrom)), (a_leaveTo, .inl (cI, 40, .inl f_leaveTo))] sz (fun u : (Nat → Int32) × (Nat → Int32) => [(h, .inr (4, [.ref a_weekly, .ref a_doubled, .ref a_dueOn, .ref a_owed, .ref a_said, .ref a_spared, .ref a_leaveOf, .ref a_leaveFrom, .ref a_leaveTo, .int v_size, .int v_rows])), (a_weekly, .inl (cZ, 40, .inl f_weekly)), (a_doubled, .inl (cZ, 40, .inl f_doubled)), (a_dueOn, .inl (cI, 40, .inl f_dueOn)), (a_owed, .inl (cI, 40, .inl u.1)), (a_spared, .inl (cI, 40, .inl u.2)), (a_leaveOf, .inl (cI, 40, .inl f_leaveOf)), (a_leaveFrom, .inl (cI, 40, .inl f_leaveFrom)), (a_leaveTo, .inl (cI, 40, .inl f_leaveTo))])) (va_A [(h, .inr (4, [.ref a_weekly, .ref a_doubled, .ref a_dueOn, .ref a_owed, .ref a_said, .ref a_spared, .ref a_leaveOf, .ref a_leaveFrom, .ref a_leaveTo, .int v_size, .int v_rows])), (a_weekly, .inl (cZ, 40, .inl f_weekly)), (a_doubled, .inl (cZ, 40, .inl f_doubled)), (a_dueOn, .inl (cI, 40, .inl f_dueOn)), (a_owed, .inl (cI, 40, .inl f_owed)), (a_spared, .inl (cI, 40, .inl f_spared)), (a_leaveOf, .inl (cI, 40, .inl f_leaveOf)), (a_leaveFrom, .inl (cI, 40, .inl f_leaveFrom)), (a_leaveTo, .inl (cI, 40, .inl f_leaveTo))] sz)) 0 (0) (va_A [(h, .inr (4, [.ref a_weekly, .ref a_doubled, .ref a_dueOn, .ref a_owed, .ref a_said, .ref a_spared, .ref a_leaveOf, .ref a_leaveFrom, .ref a_leaveTo, .int v_size, .int v_rows])), (a_weekly, .inl (cZ, 40, .inl f_weekly)), (a_doubled, .inl (cZ, 40, .inl f_doubled)), (a_dueOn, .inl (cI, 40, .inl f_dueOn)), (a_owed, .inl (cI, 40, .inl f_owed)), (a_spared, .inl (cI, 40, .inl f_spared)), (a_leaveOf, .inl (cI, 40, .inl f_leaveOf)), (a_leaveFrom, .inl (cI, 40, .inl f_leaveFrom)), (a_leaveTo, .inl (cI, 40, .inl f_leaveTo))] sz) := by
  refine rw_retv (cc := cX4_fallDue) (maxL := 4) (own := RX4) (by decide) rfl rfl (Nat.le_of_ble_eq_true rfl) ?_
  intro p e s m args below meth c Q A S hin hret hP hK hD hA hS ls hl
  obtain ⟨hx, hb, hml, hown, hts⟩ := id S
  have hl : lv_has ls 4 [(0, .ref h), (1, .int d)] := hl
  have kk0 : (0 : Int32).toInt = 0 := by decide
  have kk1 : (1 : Int32).toInt = 1 := by decide
  have kk2 : (2 : Int32).toInt = 2 := by decide
  have lk0 := hts (.fieldLink RX4 40 "AbbeyHours$Gifts" "size" "I") (List.mem_cons_of_mem _ (List.mem_append_left _ (List.mem_of_getElem? (i := 0) rfl)))
  have lk1 := hts (.fieldLink RX4 15 "AbbeyHours$Gifts" "doubled" "[Z") (List.mem_cons_of_mem _ (List.mem_append_left _ (List.mem_of_getElem? (i := 1) rfl)))
  have lk2 := hts (.fieldLink RX4 22 "AbbeyHours$Gifts" "owed" "[I") (List.mem_cons_of_mem _ (List.mem_append_left _ (List.mem_of_getElem? (i := 3) rfl)))
  have lk3 := hts (.fieldLink RX4 28 "AbbeyHours$Gifts" "spared" "[I") (List.mem_cons_of_mem _ (List.mem_append_left _ (List.mem_of_getElem? (i := 2) rfl)))
  refine lv_iconst (v := 0) hx hb dX4_fallDue_0 (by decide) ?_
  refine lv_istore_n (lv' := [(2, .int 0), (0, .ref h), (1, .int d)]) hx hb dX4_fallDue_1 rfl hl (by decide) rfl (fun ls hl => ?_)
  have loop2 : ∀ (fuel : Nat) (j : Int32) (fo : Nat → Int32) (fs : Nat → Int32), v_size.toInt - j.toInt < (fuel : Int) → (0 ≤ j.toInt) → (j.toInt ≤ v_size.toInt) → (OweR (dueQ f_weekly f_dueOn d) (leaveQ f_leaveOf f_leaveFrom f_leaveTo v_rows.toInt d) f_doubled j.toNatClampNeg f_owed f_spared fo fs) → ∀ (H : Heap) (locs : List Loc), va_P D vwCl [(h, .inr (4, [.ref a_weekly, .ref a_doubled, .ref a_dueOn, .ref a_owed, .ref a_said, .ref a_spared, .ref a_leaveOf, .ref a_leaveFrom, .ref a_leaveTo, .int v_size, .int v_rows])), (a_weekly, .inl (cZ, 40, .inl f_weekly)), (a_doubled, .inl (cZ, 40, .inl f_doubled)), (a_dueOn, .inl (cI, 40, .inl f_dueOn)), (a_owed, .inl (cI, 40, .inl fo)), (a_spared, .inl (cI, 40, .inl fs)), (a_leaveOf, .inl (cI, 40, .inl f_leaveOf)), (a_leaveFrom, .inl (cI, 40, .inl f_leaveFrom)), (a_leaveTo, .inl (cI, 40, .inl f_leaveTo))] H → va_D A [(h, .inr (4, [.ref a_weekly, .ref a_doubled, .ref a_dueOn, .ref a_owed, .ref a_said, .ref a_spared, .ref a_leaveOf, .ref a_leaveFrom, .ref a_leaveTo, .int v_size, .int v_rows])), (a_weekly, .inl (cZ, 40, .inl f_weekly)), (a_doubled, .inl (cZ, 40, .inl f_doubled)), (a_dueOn, .inl (cI, 40, .inl f_dueOn)), (a_owed, .inl (cI, 40, .inl fo)), (a_spared, .inl (cI, 40, .inl fs)), (a_leaveOf, .inl (cI, 40, .inl f_leaveOf)), (a_leaveFrom, .inl (cI, 40, .inl f_leaveFrom)), (a_leaveTo, .inl (cI, 40, .inl f_leaveTo))] → va_S A s.heap H locs → ∀ ls : Array Slot, lv_has ls 4 [(2, .int j), (0, .ref h), (1, .int d)] → W p l e ({ frames := 2, cells := 0, slots := 0, locals := 45 } : Room) s m args below meth c H locs 0 (0) Q (F0 m 2 ls []) := by
    intro fuel
    induction fuel with
    | zero =>
      intro j fo fs hmu hj0 hj1 how H locs hP hD hS ls hl
      exfalso; omega
    | succ fuel ih2 =>
      intro j fo fs hmu hj0 hj1 how H locs hP hD hS ls hl
      refine lv_iload_n hx hb dX4_fallDue_2 rfl (lv_at hl 0 rfl) ?_
      refine lv_aload_n hx hb dX4_fallDue_3 rfl (lv_at hl 1 rfl) ?_
      refine va_get (D := D) (ci := 4) (v := .int v_size) (C := RX4) (T := TX4) (N := 11) hx hb hts in_e_fallDue_X4 hown hK.1 hP 0 rfl rfl 9 (by decide) lk0 (fun _ h9 => h9) rfl dX4_fallDue_4 ?_
      refine lv_icmp_ge (tgt := 72) hx hb dX4_fallDue_7 (by decide) (fun c_1 => ?_) (fun c_1 => ?_)
      · have tc_1 := t_le c_1
        exact hret (fo, fs) _ _ _ _ (show OweR (dueQ f_weekly f_dueOn d) (leaveQ f_leaveOf f_leaveFrom f_leaveTo v_rows.toInt d) f_doubled v_size.toNatClampNeg f_owed f_spared fo fs from by rw [show v_size = j from i32_ext (by omega)]; exact how) (hP.sub [0, 1, 2, 3, 4, 5, 6, 7, 8] rfl) (hD.sub [0, 1, 2, 3, 4, 5, 6, 7, 8] (by decide +kernel) rfl) hS dX4_fallDue_72
      · have tc_1 := t_nle c_1
        refine lv_aload_n hx hb dX4_fallDue_10 rfl (lv_at hl 1 rfl) ?_
        refine lv_iload_n hx hb dX4_fallDue_11 rfl (lv_at hl 0 rfl) ?_
        refine lv_iload_n hx hb dX4_fallDue_12 rfl (lv_at hl 2 rfl) ?_
        have hPc := hP.sub (ws' := [(h, .inr (4, [.ref a_weekly, .ref a_doubled, .ref a_dueOn, .ref a_owed, .ref a_said, .ref a_spared, .ref a_leaveOf, .ref a_leaveFrom, .ref a_leaveTo, .int v_size, .int v_rows])), (a_weekly, .inl (cZ, 40, .inl f_weekly)), (a_dueOn, .inl (cI, 40, .inl f_dueOn))]) [0, 1, 3] rfl
        refine roV (As := [.int j, .int d]) (rest := []) S (e_isDue  (by omega) (by omega)) (cwV 2 hts gX4_fallDue_X4_isDue rfl rfl rfl ⟨rfl, hd_X4_isDue⟩ ⟨Nat.le_of_ble_eq_true rfl, Nat.le_of_ble_eq_true rfl⟩) hK hPc (va_recv hK.1 hPc (ci := 4) (q0 := 0) rfl rfl) rfl hl.1 rfl (Nat.le_of_ble_eq_true rfl) dX4_fallDue_13 ⟨Nat.le_of_ble_eq_true rfl, Nat.le_of_ble_eq_true rfl⟩ (fun r_du hw_du => ?_)
        have hw_du : (r_du.toInt = 1 ∧ DueP f_weekly f_dueOn j d) ∨ (r_du.toInt = 0 ∧ ¬ DueP f_weekly f_dueOn j d) := hw_du
        have h1_du := if01 hw_du
        refine lv_if_eq (tgt := 66) hx hb dX4_fallDue_16 (by decide) (fun c_2 => ?_) (fun c_2 => ?_)
        · have tc_2 := t_eq c_2
          obtain ⟨x_3, ex_3⟩ : ∃ y : Int32, y = j + 1 := ⟨_, rfl⟩
          refine lv_iinc (v := x_3) (lv' := [(2, .int x_3), (0, .ref h), (1, .int d)]) hx hb dX4_fallDue_66 hl (k := 0) rfl (by rw [ex_3]; rfl) (by decide) rfl (fun ls hl => ?_)
          first | have tx_3 := t_add ex_3 (by omega) (by omega) | skip
          refine lv_goto (tgt := 2) hx hb dX4_fallDue_69 (by decide) ?_
          exact ih2 x_3 fo fs (by omega) (by omega) (by omega) (by rw [ix1 (x := x_3) (i := j) (by omega) (by omega)]; first | exact ⟨fo, fs, how, Or.inr (Or.inl ⟨(dueQ_ix (by omega)).mpr (if1 hw_du (by omega)), (leaveQ_ix (by omega)).mpr (if1 hw_le (by omega)), rfl, by rw [egs1, egs2, egs3]; unfold massF; rw [← eyb]; first | rw [if_pos cb] | rw [if_neg cb]⟩)⟩ | exact ⟨fo, fs, how, Or.inr (Or.inr ⟨(dueQ_ix (by omega)).mpr (if1 hw_du (by omega)), fun h => absurd ((leaveQ_ix (by omega)).mp h) (if0 hw_le (by omega)), by rw [ego1, ego2, ego3]; unfold massF; rw [← eyb]; first | rw [if_pos cb] | rw [if_neg cb], rfl⟩)⟩ | exact ⟨fo, fs, how, Or.inl ⟨fun h => absurd ((dueQ_ix (by omega)).mp h) (if0 hw_du (by omega)), rfl, rfl⟩⟩) _ _ hP hD hS ls (lv_sub hl [0, 1, 2] rfl)
        · have tc_2 := t_neq c_2
          refine lv_aload_n hx hb dX4_fallDue_19 rfl (lv_at hl 1 rfl) ?_
          refine va_get (D := D) (ci := 4) (v := .ref a_doubled) (C := RX4) (T := TX4) (N := 11) hx hb hts in_e_fallDue_X4 hown hK.1 hP 0 rfl rfl 1 (by decide) lk1 (fun _ h9 => h9) rfl dX4_fallDue_20 ?_
          refine lv_iload_n hx hb dX4_fallDue_23 rfl (lv_at hl 0 rfl) ?_
          refine va_zald hx hb hK.1 hP 2 1 rfl rfl (t_in (by omega) (by omega)) dX4_fallDue_24 ?_
          refine lv_topi (fun yb eyb => ?_)
          refine lv_if_eq (tgt := 32) hx hb dX4_fallDue_25 (by decide) (fun cb => ?_) (fun cb => ?_)
          · have tcb := t_eq cb
            refine lv_iconst (v := 1) hx hb dX4_fallDue_32 (by decide) ?_
            refine lv_istore_n (lv' := [(3, .int 1), (2, .int j), (0, .ref h), (1, .int d)]) hx hb dX4_fallDue_33 rfl hl (by decide) rfl (fun ls hl => ?_)
            refine lv_aload_n hx hb dX4_fallDue_34 rfl (lv_at hl 2 rfl) ?_
            refine lv_iload_n hx hb dX4_fallDue_35 rfl (lv_at hl 1 rfl) ?_
            refine lv_iload_n hx hb dX4_fallDue_36 rfl (lv_at hl 3 rfl) ?_
            have hPc := hP.sub (ws' := [(h, .inr (4, [.ref a_weekly, .ref a_doubled, .ref a_dueOn, .ref a_owed, .ref a_said, .ref a_spared, .ref a_leaveOf, .ref a_leaveFrom, .ref a_leaveTo, .int v_size, .int v_rows])), (a_leaveOf, .inl (cI, 40, .inl f_leaveOf)), (a_leaveFrom, .inl (cI, 40, .inl f_leaveFrom)), (a_leaveTo, .inl (cI, 40, .inl f_leaveTo))]) [0, 6, 7, 8] rfl
            refine roV (As := [.int j, .int d]) (rest := []) S (e_hasLeave  (by omega) (by omega)) (cwV 2 hts gX4_fallDue_X4_hasLeave rfl rfl rfl ⟨rfl, hd_X4_hasLeave⟩ ⟨Nat.le_of_ble_eq_true rfl, Nat.le_of_ble_eq_true rfl⟩) hK hPc (va_recv hK.1 hPc (ci := 4) (q0 := 0) rfl rfl) rfl hl.1 rfl (Nat.le_of_ble_eq_true rfl) dX4_fallDue_37 ⟨Nat.le_of_ble_eq_true rfl, Nat.le_of_ble_eq_true rfl⟩ (fun r_le hw_le => ?_)
            have hw_le : (r_le.toInt = 1 ∧ LeaveP f_leaveOf f_leaveFrom f_leaveTo v_rows.toInt j d) ∨ (r_le.toInt = 0 ∧ ¬ LeaveP f_leaveOf f_leaveFrom f_leaveTo v_rows.toInt j d) := hw_le
            have h1_le := if01 hw_le
            refine lv_if_eq (tgt := 56) hx hb dX4_fallDue_40 (by decide) (fun c_6 => ?_) (fun c_6 => ?_)
            · have tc_6 := t_eq c_6
              refine lv_aload_n hx hb dX4_fallDue_56 rfl (lv_at hl 2 rfl) ?_
              refine va_get (D := D) (ci := 4) (v := .ref a_owed) (C := RX4) (T := TX4) (N := 11) hx hb hts in_e_fallDue_X4 hown hK.1 hP 0 rfl rfl 3 (by decide) lk2 (fun _ h9 => h9) rfl dX4_fallDue_57 ?_
              refine lv_iload_n hx hb dX4_fallDue_60 rfl (lv_at hl 1 rfl) ?_
              refine lv_dup2_11 hx hb dX4_fallDue_61 rfl rfl ?_
              refine va_iald hx hb hK.1 hP 4 0 rfl rfl (t_in (by omega) (by omega)) dX4_fallDue_62 ?_
              refine lv_topi (fun go3 ego3 => ?_)
              refine lv_iload_n hx hb dX4_fallDue_63 rfl (lv_at hl 0 rfl) ?_
              refine lv_iadd hx hb dX4_fallDue_64 ?_
              refine lv_topi (fun go2 ego2 => ?_)
              refine va_iast hx hb hK.1 hP hD hS 4 0 rfl rfl (t_in (by omega) (by omega)) dX4_fallDue_65 (fun H locs hP hD hS => ?_)
              obtain ⟨go1, ego1⟩ : ∃ z : Nat → Int32, z = upd fo ((j : Int32).toNatClampNeg) go2 := ⟨_, rfl⟩
              rw [← ego1] at hP hD
              have hP : va_P D vwCl [(h, .inr (4, [.ref a_weekly, .ref a_doubled, .ref a_dueOn, .ref a_owed, .ref a_said, .ref a_spared, .ref a_leaveOf, .ref a_leaveFrom, .ref a_leaveTo, .int v_size, .int v_rows])), (a_weekly, .inl (cZ, 40, .inl f_weekly)), (a_doubled, .inl (cZ, 40, .inl f_doubled)), (a_dueOn, .inl (cI, 40, .inl f_dueOn)), (a_owed, .inl (cI, 40, .inl go1)), (a_spared, .inl (cI, 40, .inl fs)), (a_leaveOf, .inl (cI, 40, .inl f_leaveOf)), (a_leaveFrom, .inl (cI, 40, .inl f_leaveFrom)), (a_leaveTo, .inl (cI, 40, .inl f_leaveTo))] H := hP
              have hD : va_D A [(h, .inr (4, [.ref a_weekly, .ref a_doubled, .ref a_dueOn, .ref a_owed, .ref a_said, .ref a_spared, .ref a_leaveOf, .ref a_leaveFrom, .ref a_leaveTo, .int v_size, .int v_rows])), (a_weekly, .inl (cZ, 40, .inl f_weekly)), (a_doubled, .inl (cZ, 40, .inl f_doubled)), (a_dueOn, .inl (cI, 40, .inl f_dueOn)), (a_owed, .inl (cI, 40, .inl go1)), (a_spared, .inl (cI, 40, .inl fs)), (a_leaveOf, .inl (cI, 40, .inl f_leaveOf)), (a_leaveFrom, .inl (cI, 40, .inl f_leaveFrom)), (a_leaveTo, .inl (cI, 40, .inl f_leaveTo))] := hD
              obtain ⟨x_10, ex_10⟩ : ∃ y : Int32, y = j + 1 := ⟨_, rfl⟩
              refine lv_iinc (v := x_10) (lv' := [(2, .int x_10), (3, .int 1), (0, .ref h), (1, .int d)]) hx hb dX4_fallDue_66 hl (k := 1) rfl (by rw [ex_10]; rfl) (by decide) rfl (fun ls hl => ?_)
              first | have tx_10 := t_add ex_10 (by omega) (by omega) | skip
              refine lv_goto (tgt := 2) hx hb dX4_fallDue_69 (by decide) ?_
              exact ih2 x_10 go1 fs (by omega) (by omega) (by omega) (by rw [ix1 (x := x_10) (i := j) (by omega) (by omega)]; first | exact ⟨fo, fs, how, Or.inr (Or.inl ⟨(dueQ_ix (by omega)).mpr (if1 hw_du (by omega)), (leaveQ_ix (by omega)).mpr (if1 hw_le (by omega)), rfl, by rw [egs1, egs2, egs3]; unfold massF; rw [← eyb]; first | rw [if_pos cb] | rw [if_neg cb]⟩)⟩ | exact ⟨fo, fs, how, Or.inr (Or.inr ⟨(dueQ_ix (by omega)).mpr (if1 hw_du (by omega)), fun h => absurd ((leaveQ_ix (by omega)).mp h) (if0 hw_le (by omega)), by rw [ego1, ego2, ego3]; unfold massF; rw [← eyb]; first | rw [if_pos cb] | rw [if_neg cb], rfl⟩)⟩ | exact ⟨fo, fs, how, Or.inl ⟨fun h => absurd ((dueQ_ix (by omega)).mp h) (if0 hw_du (by omega)), rfl, rfl⟩⟩) _ _ hP hD hS ls (lv_sub hl [0, 2, 3] rfl)
            · have tc_6 := t_neq c_6
              refine lv_aload_n hx hb dX4_fallDue_43 rfl (lv_at hl 2 rfl) ?_
              refine va_get (D := D) (ci := 4) (v := .ref a_spared) (C := RX4) (T := TX4) (N := 11) hx hb hts in_e_fallDue_X4 hown hK.1 hP 0 rfl rfl 5 (by decide) lk3 (fun _ h9 => h9) rfl dX4_fallDue_44 ?_
              refine lv_iload_n hx hb dX4_fallDue_47 rfl (lv_at hl 1 rfl) ?_
              refine lv_dup2_11 hx hb dX4_fallDue_48 rfl rfl ?_
              refine va_iald hx hb hK.1 hP 5 0 rfl rfl (t_in (by omega) (by omega)) dX4_fallDue_49 ?_
              refine lv_topi (fun gs3 egs3 => ?_)
              refine lv_iload_n hx hb dX4_fallDue_50 rfl (lv_at hl 0 rfl) ?_
              refine lv_iadd hx hb dX4_fallDue_51 ?_
              refine lv_topi (fun gs2 egs2 => ?_)
              refine va_iast hx hb hK.1 hP hD hS 5 0 rfl rfl (t_in (by omega) (by omega)) dX4_fallDue_52 (fun H locs hP hD hS => ?_)
              obtain ⟨gs1, egs1⟩ : ∃ z : Nat → Int32, z = upd fs ((j : Int32).toNatClampNeg) gs2 := ⟨_, rfl⟩
              rw [← egs1] at hP hD
              have hP : va_P D vwCl [(h, .inr (4, [.ref a_weekly, .ref a_doubled, .ref a_dueOn, .ref a_owed, .ref a_said, .ref a_spared, .ref a_leaveOf, .ref a_leaveFrom, .ref a_leaveTo, .int v_size, .int v_rows])), (a_weekly, .inl (cZ, 40, .inl f_weekly)), (a_doubled, .inl (cZ, 40, .inl f_doubled)), (a_dueOn, .inl (cI, 40, .inl f_dueOn)), (a_owed, .inl (cI, 40, .inl fo)), (a_spared, .inl (cI, 40, .inl gs1)), (a_leaveOf, .inl (cI, 40, .inl f_leaveOf)), (a_leaveFrom, .inl (cI, 40, .inl f_leaveFrom)), (a_leaveTo, .inl (cI, 40, .inl f_leaveTo))] H := hP
              have hD : va_D A [(h, .inr (4, [.ref a_weekly, .ref a_doubled, .ref a_dueOn, .ref a_owed, .ref a_said, .ref a_spared, .ref a_leaveOf, .ref a_leaveFrom, .ref a_leaveTo, .int v_size, .int v_rows])), (a_weekly, .inl (cZ, 40, .inl f_weekly)), (a_doubled, .inl (cZ, 40, .inl f_doubled)), (a_dueOn, .inl (cI, 40, .inl f_dueOn)), (a_owed, .inl (cI, 40, .inl fo)), (a_spared, .inl (cI, 40, .inl gs1)), (a_leaveOf, .inl (cI, 40, .inl f_leaveOf)), (a_leaveFrom, .inl (cI, 40, .inl f_leaveFrom)), (a_leaveTo, .inl (cI, 40, .inl f_leaveTo))] := hD
              refine lv_goto (tgt := 66) hx hb dX4_fallDue_53 (by decide) ?_
              obtain ⟨x_14, ex_14⟩ : ∃ y : Int32, y = j + 1 := ⟨_, rfl⟩
              refine lv_iinc (v := x_14) (lv' := [(2, .int x_14), (3, .int 1), (0, .ref h), (1, .int d)]) hx hb dX4_fallDue_66 hl (k := 1) rfl (by rw [ex_14]; rfl) (by decide) rfl (fun ls hl => ?_)
              first | have tx_14 := t_add ex_14 (by omega) (by omega) | skip
              refine lv_goto (tgt := 2) hx hb dX4_fallDue_69 (by decide) ?_
              exact ih2 x_14 fo gs1 (by omega) (by omega) (by omega) (by rw [ix1 (x := x_14) (i := j) (by omega) (by omega)]; first | exact ⟨fo, fs, how, Or.inr (Or.inl ⟨(dueQ_ix (by omega)).mpr (if1 hw_du (by omega)), (leaveQ_ix (by omega)).mpr (if1 hw_le (by omega)), rfl, by rw [egs1, egs2, egs3]; unfold massF; rw [← eyb]; first | rw [if_pos cb] | rw [if_neg cb]⟩)⟩ | exact ⟨fo, fs, how, Or.inr (Or.inr ⟨(dueQ_ix (by omega)).mpr (if1 hw_du (by omega)), fun h => absurd ((leaveQ_ix (by omega)).mp h) (if0 hw_le (by omega)), by rw [ego1, ego2, ego3]; unfold massF; rw [← eyb]; first | rw [if_pos cb] | rw [if_neg cb], rfl⟩)⟩ | exact ⟨fo, fs, how, Or.inl ⟨fun h => absurd ((dueQ_ix (by omega)).mp h) (if0 hw_du (by omega)), rfl, rfl⟩⟩) _ _ hP hD hS ls (lv_sub hl [0, 2, 3] rfl)
          · have tcb := t_neq cb
            refine lv_iconst (v := 2) hx hb dX4_fallDue_28 (by decide) ?_
            refine lv_goto (tgt := 33) hx hb dX4_fallDue_29 (by decide) ?_
            refine lv_istore_n (lv' := [(3, .int 2), (2, .int j), (0, .ref h), (1, .int d)]) hx hb dX4_fallDue_33 rfl hl (by decide) rfl (fun ls hl => ?_)
            refine lv_aload_n hx hb dX4_fallDue_34 rfl (lv_at hl 2 rfl) ?_
            refine lv_iload_n hx hb dX4_fallDue_35 rfl (lv_at hl 1 rfl) ?_
            refine lv_iload_n hx hb dX4_fallDue_36 rfl (lv_at hl 3 rfl) ?_
            have hPc := hP.sub (ws' := [(h, .inr (4, [.ref a_weekly, .ref a_doubled, .ref a_dueOn, .ref a_owed, .ref a_said, .ref a_spared, .ref a_leaveOf, .ref a_leaveFrom, .ref a_leaveTo, .int v_size, .int v_rows])), (a_leaveOf, .inl (cI, 40, .inl f_leaveOf)), (a_leaveFrom, .inl (cI, 40, .inl f_leaveFrom)), (a_leaveTo, .inl (cI, 40, .inl f_leaveTo))]) [0, 6, 7, 8] rfl
            refine roV (As := [.int j, .int d]) (rest := []) S (e_hasLeave  (by omega) (by omega)) (cwV 2 hts gX4_fallDue_X4_hasLeave rfl rfl rfl ⟨rfl, hd_X4_hasLeave⟩ ⟨Nat.le_of_ble_eq_true rfl, Nat.le_of_ble_eq_true rfl⟩) hK hPc (va_recv hK.1 hPc (ci := 4) (q0 := 0) rfl rfl) rfl hl.1 rfl (Nat.le_of_ble_eq_true rfl) dX4_fallDue_37 ⟨Nat.le_of_ble_eq_true rfl, Nat.le_of_ble_eq_true rfl⟩ (fun r_le hw_le => ?_)
            have hw_le : (r_le.toInt = 1 ∧ LeaveP f_leaveOf f_leaveFrom f_leaveTo v_rows.toInt j d) ∨ (r_le.toInt = 0 ∧ ¬ LeaveP f_leaveOf f_leaveFrom f_leaveTo v_rows.toInt j d) := hw_le
            have h1_le := if01 hw_le
            refine lv_if_eq (tgt := 56) hx hb dX4_fallDue_40 (by decide) (fun c_15 => ?_) (fun c_15 => ?_)
            · have tc_15 := t_eq c_15
              refine lv_aload_n hx hb dX4_fallDue_56 rfl (lv_at hl 2 rfl) ?_
              refine va_get (D := D) (ci := 4) (v := .ref a_owed) (C := RX4) (T := TX4) (N := 11) hx hb hts in_e_fallDue_X4 hown hK.1 hP 0 rfl rfl 3 (by decide) lk2 (fun _ h9 => h9) rfl dX4_fallDue_57 ?_
              refine lv_iload_n hx hb dX4_fallDue_60 rfl (lv_at hl 1 rfl) ?_
              refine lv_dup2_11 hx hb dX4_fallDue_61 rfl rfl ?_
              refine va_iald hx hb hK.1 hP 4 0 rfl rfl (t_in (by omega) (by omega)) dX4_fallDue_62 ?_
              refine lv_topi (fun go3 ego3 => ?_)
              refine lv_iload_n hx hb dX4_fallDue_63 rfl (lv_at hl 0 rfl) ?_
              refine lv_iadd hx hb dX4_fallDue_64 ?_
              refine lv_topi (fun go2 ego2 => ?_)
              refine va_iast hx hb hK.1 hP hD hS 4 0 rfl rfl (t_in (by omega) (by omega)) dX4_fallDue_65 (fun H locs hP hD hS => ?_)
              obtain ⟨go1, ego1⟩ : ∃ z : Nat → Int32, z = upd fo ((j : Int32).toNatClampNeg) go2 := ⟨_, rfl⟩
              rw [← ego1] at hP hD
              have hP : va_P D vwCl [(h, .inr (4, [.ref a_weekly, .ref a_doubled, .ref a_dueOn, .ref a_owed, .ref a_said, .ref a_spared, .ref a_leaveOf, .ref a_leaveFrom, .ref a_leaveTo, .int v_size, .int v_rows])), (a_weekly, .inl (cZ, 40, .inl f_weekly)), (a_doubled, .inl (cZ, 40, .inl f_doubled)), (a_dueOn, .inl (cI, 40, .inl f_dueOn)), (a_owed, .inl (cI, 40, .inl go1)), (a_spared, .inl (cI, 40, .inl fs)), (a_leaveOf, .inl (cI, 40, .inl f_leaveOf)), (a_leaveFrom, .inl (cI, 40, .inl f_leaveFrom)), (a_leaveTo, .inl (cI, 40, .inl f_leaveTo))] H := hP
              have hD : va_D A [(h, .inr (4, [.ref a_weekly, .ref a_doubled, .ref a_dueOn, .ref a_owed, .ref a_said, .ref a_spared, .ref a_leaveOf, .ref a_leaveFrom, .ref a_leaveTo, .int v_size, .int v_rows])), (a_weekly, .inl (cZ, 40, .inl f_weekly)), (a_doubled, .inl (cZ, 40, .inl f_doubled)), (a_dueOn, .inl (cI, 40, .inl f_dueOn)), (a_owed, .inl (cI, 40, .inl go1)), (a_spared, .inl (cI, 40, .inl fs)), (a_leaveOf, .inl (cI, 40, .inl f_leaveOf)), (a_leaveFrom, .inl (cI, 40, .inl f_leaveFrom)), (a_leaveTo, .inl (cI, 40, .inl f_leaveTo))] := hD
              obtain ⟨x_19, ex_19⟩ : ∃ y : Int32, y = j + 1 := ⟨_, rfl⟩
              refine lv_iinc (v := x_19) (lv' := [(2, .int x_19), (3, .int 2), (0, .ref h), (1, .int d)]) hx hb dX4_fallDue_66 hl (k := 1) rfl (by rw [ex_19]; rfl) (by decide) rfl (fun ls hl => ?_)
              first | have tx_19 := t_add ex_19 (by omega) (by omega) | skip
              refine lv_goto (tgt := 2) hx hb dX4_fallDue_69 (by decide) ?_
              exact ih2 x_19 go1 fs (by omega) (by omega) (by omega) (by rw [ix1 (x := x_19) (i := j) (by omega) (by omega)]; first | exact ⟨fo, fs, how, Or.inr (Or.inl ⟨(dueQ_ix (by omega)).mpr (if1 hw_du (by omega)), (leaveQ_ix (by omega)).mpr (if1 hw_le (by omega)), rfl, by rw [egs1, egs2, egs3]; unfold massF; rw [← eyb]; first | rw [if_pos cb] | rw [if_neg cb]⟩)⟩ | exact ⟨fo, fs, how, Or.inr (Or.inr ⟨(dueQ_ix (by omega)).mpr (if1 hw_du (by omega)), fun h => absurd ((leaveQ_ix (by omega)).mp h) (if0 hw_le (by omega)), by rw [ego1, ego2, ego3]; unfold massF; rw [← eyb]; first | rw [if_pos cb] | rw [if_neg cb], rfl⟩)⟩ | exact ⟨fo, fs, how, Or.inl ⟨fun h => absurd ((dueQ_ix (by omega)).mp h) (if0 hw_du (by omega)), rfl, rfl⟩⟩) _ _ hP hD hS ls (lv_sub hl [0, 2, 3] rfl)
            · have tc_15 := t_neq c_15
              refine lv_aload_n hx hb dX4_fallDue_43 rfl (lv_at hl 2 rfl) ?_
              refine va_get (D := D) (ci := 4) (v := .ref a_spared) (C := RX4) (T := TX4) (N := 11) hx hb hts in_e_fallDue_X4 hown hK.1 hP 0 rfl rfl 5 (by decide) lk3 (fun _ h9 => h9) rfl dX4_fallDue_44 ?_
              refine lv_iload_n hx hb dX4_fallDue_47 rfl (lv_at hl 1 rfl) ?_
              refine lv_dup2_11 hx hb dX4_fallDue_48 rfl rfl ?_
              refine va_iald hx hb hK.1 hP 5 0 rfl rfl (t_in (by omega) (by omega)) dX4_fallDue_49 ?_
              refine lv_topi (fun gs3 egs3 => ?_)
              refine lv_iload_n hx hb dX4_fallDue_50 rfl (lv_at hl 0 rfl) ?_
              refine lv_iadd hx hb dX4_fallDue_51 ?_
              refine lv_topi (fun gs2 egs2 => ?_)
              refine va_iast hx hb hK.1 hP hD hS 5 0 rfl rfl (t_in (by omega) (by omega)) dX4_fallDue_52 (fun H locs hP hD hS => ?_)
              obtain ⟨gs1, egs1⟩ : ∃ z : Nat → Int32, z = upd fs ((j : Int32).toNatClampNeg) gs2 := ⟨_, rfl⟩
              rw [← egs1] at hP hD
              have hP : va_P D vwCl [(h, .inr (4, [.ref a_weekly, .ref a_doubled, .ref a_dueOn, .ref a_owed, .ref a_said, .ref a_spared, .ref a_leaveOf, .ref a_leaveFrom, .ref a_leaveTo, .int v_size, .int v_rows])), (a_weekly, .inl (cZ, 40, .inl f_weekly)), (a_doubled, .inl (cZ, 40, .inl f_doubled)), (a_dueOn, .inl (cI, 40, .inl f_dueOn)), (a_owed, .inl (cI, 40, .inl fo)), (a_spared, .inl (cI, 40, .inl gs1)), (a_leaveOf, .inl (cI, 40, .inl f_leaveOf)), (a_leaveFrom, .inl (cI, 40, .inl f_leaveFrom)), (a_leaveTo, .inl (cI, 40, .inl f_leaveTo))] H := hP
              have hD : va_D A [(h, .inr (4, [.ref a_weekly, .ref a_doubled, .ref a_dueOn, .ref a_owed, .ref a_said, .ref a_spared, .ref a_leaveOf, .ref a_leaveFrom, .ref a_leaveTo, .int v_size, .int v_rows])), (a_weekly, .inl (cZ, 40, .inl f_weekly)), (a_doubled, .inl (cZ, 40, .inl f_doubled)), (a_dueOn, .inl (cI, 40, .inl f_dueOn)), (a_owed, .inl (cI, 40, .inl fo)), (a_spared, .inl (cI, 40, .inl gs1)), (a_leaveOf, .inl (cI, 40, .inl f_leaveOf)), (a_leaveFrom, .inl (cI, 40, .inl f_leaveFrom)), (a_leaveTo, .inl (cI, 40, .inl f_leaveTo))] := hD
              refine lv_goto (tgt := 66) hx hb dX4_fallDue_53 (by decide) ?_
              obtain ⟨x_23, ex_23⟩ : ∃ y : Int32, y = j + 1 := ⟨_, rfl⟩
              refine lv_iinc (v := x_23) (lv' := [(2, .int x_23), (3, .int 2), (0, .ref h), (1, .int d)]) hx hb dX4_fallDue_66 hl (k := 1) rfl (by rw [ex_23]; rfl) (by decide) rfl (fun ls hl => ?_)
              first | have tx_23 := t_add ex_23 (by omega) (by omega) | skip
              refine lv_goto (tgt := 2) hx hb dX4_fallDue_69 (by decide) ?_
              exact ih2 x_23 fo gs1 (by omega) (by omega) (by omega) (by rw [ix1 (x := x_23) (i := j) (by omega) (by omega)]; first | exact ⟨fo, fs, how, Or.inr (Or.inl ⟨(dueQ_ix (by omega)).mpr (if1 hw_du (by omega)), (leaveQ_ix (by omega)).mpr (if1 hw_le (by omega)), rfl, by rw [egs1, egs2, egs3]; unfold massF; rw [← eyb]; first | rw [if_pos cb] | rw [if_neg cb]⟩)⟩ | exact ⟨fo, fs, how, Or.inr (Or.inr ⟨(dueQ_ix (by omega)).mpr (if1 hw_du (by omega)), fun h => absurd ((leaveQ_ix (by omega)).mp h) (if0 hw_le (by omega)), by rw [ego1, ego2, ego3]; unfold massF; rw [← eyb]; first | rw [if_pos cb] | rw [if_neg cb], rfl⟩)⟩ | exact ⟨fo, fs, how, Or.inl ⟨fun h => absurd ((dueQ_ix (by omega)).mp h) (if0 hw_du (by omega)), rfl, rfl⟩⟩) _ _ hP hD hS ls (lv_sub hl [0, 2, 3] rfl)
  exact loop2 ((v_size.toInt - (0 : Int32).toInt).toNat + 1) 0 f_owed f_spared (by omega) (by omega) (by omega) (by rw [ix0]; exact ⟨rfl, rfl⟩) _ _ hP hD hS ls (lv_sub hl [0, 1, 2] rfl)

theorem in_e_mostOwed_X4 : ∀ w ∈ wsX40, w ∈ wsX4_mostOwed := tl_X4_mostOwed_X4
set_option maxHeartbeats 8000000 in
set_option maxRecDepth 100000 in
theorem e_mostOwed {l : Launch} {D : va_G} {cI cZ cB : ClassId} {h a_weekly a_doubled a_dueOn a_owed a_said a_spared a_leaveOf a_leaveFrom a_leaveTo : Nat} {v_size v_rows : Int32} {f_owed : Nat → Int32}  (hv_size0 : 0 ≤ v_size.toInt) (hv_size1 : v_size.toInt ≤ 40) : Met l yX4_mostOwed wsX4_mostOwed ({ frames := 0, cells := 0, slots := 0, locals := 0 }) (RO D cI cZ cB [.ref h] [(h, .inr (4, [.ref a_weekly, .ref a_doubled, .ref a_dueOn, .ref a_owed, .ref a_said, .ref a_spared, .ref a_leaveOf, .ref a_leaveFrom, .ref a_leaveTo, .int v_size, .int v_rows])), (a_owed, .inl (cI, 40, .inl f_owed))]) (vp_Si (fun r : Int32 => IsPick (okO f_owed) (keyO f_owed) v_size.toInt r)) 0 0 (fun _ => False) := by
  refine ro_ret (cc := cX4_mostOwed) (maxL := 3) (ty := .int) (own := RX4) (by decide) rfl rfl (Nat.le_of_ble_eq_true rfl) ?_
  intro p e s m args below meth c Q S hret hP hK ls hl
  obtain ⟨hx, hb, hml, hown, hts⟩ := id S
  have hl : lv_has ls 3 [(0, .ref h)] := hl
  have kkm1 : (-1 : Int32).toInt = -1 := by decide
  have kk0 : (0 : Int32).toInt = 0 := by decide
  have kk1 : (1 : Int32).toInt = 1 := by decide
  have lk0 := hts (.fieldLink RX4 40 "AbbeyHours$Gifts" "size" "I") (List.mem_cons_of_mem _ (List.mem_append_left _ (List.mem_of_getElem? (i := 0) rfl)))
  have lk1 := hts (.fieldLink RX4 22 "AbbeyHours$Gifts" "owed" "[I") (List.mem_cons_of_mem _ (List.mem_append_left _ (List.mem_of_getElem? (i := 1) rfl)))
  refine lv_iconst (v := (-1)) hx hb dX4_mostOwed_0 (by decide) ?_
  refine lv_istore_n (lv' := [(1, .int (-1)), (0, .ref h)]) hx hb dX4_mostOwed_1 rfl hl (by decide) rfl (fun ls hl => ?_)
  refine lv_iconst (v := 0) hx hb dX4_mostOwed_2 (by decide) ?_
  refine lv_istore_n (lv' := [(2, .int 0), (1, .int (-1)), (0, .ref h)]) hx hb dX4_mostOwed_3 rfl hl (by decide) rfl (fun ls hl => ?_)
  have loop4 : ∀ (fuel : Nat) (a : Int32) (j : Int32), v_size.toInt - j.toInt < (fuel : Int) → (0 ≤ j.toInt) → (j.toInt ≤ v_size.toInt) → (IsPick (okO f_owed) (keyO f_owed) j.toInt a) → ∀ ls : Array Slot, lv_has ls 3 [(2, .int j), (1, .int a), (0, .ref h)] → W p l e ({ frames := 0, cells := 0, slots := 0, locals := 0 } : Room) s m args below meth c s.heap [] 0 0 Q (F0 m 4 ls []) := by
    intro fuel
    induction fuel with
    | zero =>
      intro a j hmu hj0 hj1 hpk ls hl
      exfalso; omega
    | succ fuel ih4 =>
      intro a j hmu hj0 hj1 hpk ls hl
      have ha := hpk.rg
      refine lv_iload_n hx hb dX4_mostOwed_4 rfl (lv_at hl 0 rfl) ?_
      refine lv_aload_n hx hb dX4_mostOwed_5 rfl (lv_at hl 2 rfl) ?_
      refine va_get (D := D) (ci := 4) (v := .int v_size) (C := RX4) (T := TX4) (N := 11) hx hb hts in_e_mostOwed_X4 hown hK.1 hP 0 rfl rfl 9 (by decide) lk0 (fun _ h9 => h9) rfl dX4_mostOwed_6 ?_
      refine lv_icmp_ge (tgt := 49) hx hb dX4_mostOwed_9 (by decide) (fun c_1 => ?_) (fun c_1 => ?_)
      · have tc_1 := t_le c_1
        refine lv_iload_n hx hb dX4_mostOwed_49 rfl (lv_at hl 1 rfl) ?_
        exact hret a _ _ (show IsPick (okO f_owed) (keyO f_owed) v_size.toInt a from by rw [show v_size.toInt = j.toInt by omega]; exact hpk) rfl dX4_mostOwed_50
      · have tc_1 := t_nle c_1
        refine lv_aload_n hx hb dX4_mostOwed_12 rfl (lv_at hl 2 rfl) ?_
        refine va_get (D := D) (ci := 4) (v := .ref a_owed) (C := RX4) (T := TX4) (N := 11) hx hb hts in_e_mostOwed_X4 hown hK.1 hP 0 rfl rfl 3 (by decide) lk1 (fun _ h9 => h9) rfl dX4_mostOwed_13 ?_
        refine lv_iload_n hx hb dX4_mostOwed_16 rfl (lv_at hl 0 rfl) ?_
        refine va_iald hx hb hK.1 hP 1 0 rfl rfl (t_in (by omega) (by omega)) dX4_mostOwed_17 ?_
        refine lv_topi (fun y0 ey0 => ?_)
        refine lv_if_le (tgt := 43) hx hb dX4_mostOwed_18 (by decide) (fun c_3 => ?_) (fun c_3 => ?_)
        · have tc_3 := t_le c_3
          obtain ⟨x_4, ex_4⟩ : ∃ y : Int32, y = j + 1 := ⟨_, rfl⟩
          refine lv_iinc (v := x_4) (lv' := [(2, .int x_4), (1, .int a), (0, .ref h)]) hx hb dX4_mostOwed_43 hl (k := 0) rfl (by rw [ex_4]; rfl) (by decide) rfl (fun ls hl => ?_)
          first | have tx_4 := t_add ex_4 (by omega) (by omega) | skip
          refine lv_goto (tgt := 4) hx hb dX4_mostOwed_46 (by decide) ?_
          exact ih4 a x_4 (by omega) (by omega) (by omega) (by first | exact hpk.take (by omega) (by omega) (by show 0 < (f_owed _).toInt; rw [← ey0]; omega) (by first | exact Or.inl (by omega) | exact Or.inr (by show -(f_owed _).toInt < -(f_owed _).toInt; rw [← ey1, ← ey2]; omega)) | exact hpk.skip (by omega) (by omega) (fun h => by have h : 0 < (f_owed j.toNatClampNeg).toInt := h; rw [← ey0] at h; omega) | exact hpk.keep (by omega) (by omega) (by omega) (by show -(f_owed _).toInt ≤ -(f_owed _).toInt; rw [← ey1, ← ey2]; omega)) ls (lv_sub hl [0, 1, 2] rfl)
        · have tc_3 := t_nle c_3
          refine lv_iload_n hx hb dX4_mostOwed_21 rfl (lv_at hl 1 rfl) ?_
          refine lv_iconst (v := (-1)) hx hb dX4_mostOwed_22 (by decide) ?_
          refine lv_icmp_eq (tgt := 41) hx hb dX4_mostOwed_23 (by decide) (fun c_5 => ?_) (fun c_5 => ?_)
          · have tc_5 := t_eq c_5
            refine lv_iload_n hx hb dX4_mostOwed_41 rfl (lv_at hl 0 rfl) ?_
            refine lv_istore_n (lv' := [(1, .int j), (2, .int j), (0, .ref h)]) hx hb dX4_mostOwed_42 rfl hl (by decide) rfl (fun ls hl => ?_)
            obtain ⟨x_6, ex_6⟩ : ∃ y : Int32, y = j + 1 := ⟨_, rfl⟩
            refine lv_iinc (v := x_6) (lv' := [(2, .int x_6), (1, .int j), (0, .ref h)]) hx hb dX4_mostOwed_43 hl (k := 1) rfl (by rw [ex_6]; rfl) (by decide) rfl (fun ls hl => ?_)
            first | have tx_6 := t_add ex_6 (by omega) (by omega) | skip
            refine lv_goto (tgt := 4) hx hb dX4_mostOwed_46 (by decide) ?_
            exact ih4 j x_6 (by omega) (by omega) (by omega) (by first | exact hpk.take (by omega) (by omega) (by show 0 < (f_owed _).toInt; rw [← ey0]; omega) (by first | exact Or.inl (by omega) | exact Or.inr (by show -(f_owed _).toInt < -(f_owed _).toInt; rw [← ey1, ← ey2]; omega)) | exact hpk.skip (by omega) (by omega) (fun h => by have h : 0 < (f_owed j.toNatClampNeg).toInt := h; rw [← ey0] at h; omega) | exact hpk.keep (by omega) (by omega) (by omega) (by show -(f_owed _).toInt ≤ -(f_owed _).toInt; rw [← ey1, ← ey2]; omega)) ls (lv_sub hl [0, 1, 2] rfl)
          · have tc_5 := t_neq c_5
            refine lv_aload_n hx hb dX4_mostOwed_26 rfl (lv_at hl 2 rfl) ?_
            refine va_get (D := D) (ci := 4) (v := .ref a_owed) (C := RX4) (T := TX4) (N := 11) hx hb hts in_e_mostOwed_X4 hown hK.1 hP 0 rfl rfl 3 (by decide) lk1 (fun _ h9 => h9) rfl dX4_mostOwed_27 ?_
            refine lv_iload_n hx hb dX4_mostOwed_30 rfl (lv_at hl 0 rfl) ?_
            refine va_iald hx hb hK.1 hP 1 0 rfl rfl (t_in (by omega) (by omega)) dX4_mostOwed_31 ?_
            refine lv_topi (fun y1 ey1 => ?_)
            refine lv_aload_n hx hb dX4_mostOwed_32 rfl (lv_at hl 2 rfl) ?_
            refine va_get (D := D) (ci := 4) (v := .ref a_owed) (C := RX4) (T := TX4) (N := 11) hx hb hts in_e_mostOwed_X4 hown hK.1 hP 0 rfl rfl 3 (by decide) lk1 (fun _ h9 => h9) rfl dX4_mostOwed_33 ?_
            refine lv_iload_n hx hb dX4_mostOwed_36 rfl (lv_at hl 1 rfl) ?_
            refine va_iald hx hb hK.1 hP 1 0 rfl rfl (t_in (by omega) (by omega)) dX4_mostOwed_37 ?_
            refine lv_topi (fun y2 ey2 => ?_)
            refine lv_icmp_le (tgt := 43) hx hb dX4_mostOwed_38 (by decide) (fun c_9 => ?_) (fun c_9 => ?_)
            · have tc_9 := t_le c_9
              obtain ⟨x_10, ex_10⟩ : ∃ y : Int32, y = j + 1 := ⟨_, rfl⟩
              refine lv_iinc (v := x_10) (lv' := [(2, .int x_10), (1, .int a), (0, .ref h)]) hx hb dX4_mostOwed_43 hl (k := 0) rfl (by rw [ex_10]; rfl) (by decide) rfl (fun ls hl => ?_)
              first | have tx_10 := t_add ex_10 (by omega) (by omega) | skip
              refine lv_goto (tgt := 4) hx hb dX4_mostOwed_46 (by decide) ?_
              exact ih4 a x_10 (by omega) (by omega) (by omega) (by first | exact hpk.take (by omega) (by omega) (by show 0 < (f_owed _).toInt; rw [← ey0]; omega) (by first | exact Or.inl (by omega) | exact Or.inr (by show -(f_owed _).toInt < -(f_owed _).toInt; rw [← ey1, ← ey2]; omega)) | exact hpk.skip (by omega) (by omega) (fun h => by have h : 0 < (f_owed j.toNatClampNeg).toInt := h; rw [← ey0] at h; omega) | exact hpk.keep (by omega) (by omega) (by omega) (by show -(f_owed _).toInt ≤ -(f_owed _).toInt; rw [← ey1, ← ey2]; omega)) ls (lv_sub hl [0, 1, 2] rfl)
            · have tc_9 := t_nle c_9
              refine lv_iload_n hx hb dX4_mostOwed_41 rfl (lv_at hl 0 rfl) ?_
              refine lv_istore_n (lv' := [(1, .int j), (2, .int j), (0, .ref h)]) hx hb dX4_mostOwed_42 rfl hl (by decide) rfl (fun ls hl => ?_)
              obtain ⟨x_11, ex_11⟩ : ∃ y : Int32, y = j + 1 := ⟨_, rfl⟩
              refine lv_iinc (v := x_11) (lv' := [(2, .int x_11), (1, .int j), (0, .ref h)]) hx hb dX4_mostOwed_43 hl (k := 1) rfl (by rw [ex_11]; rfl) (by decide) rfl (fun ls hl => ?_)
              first | have tx_11 := t_add ex_11 (by omega) (by omega) | skip
              refine lv_goto (tgt := 4) hx hb dX4_mostOwed_46 (by decide) ?_
              exact ih4 j x_11 (by omega) (by omega) (by omega) (by first | exact hpk.take (by omega) (by omega) (by show 0 < (f_owed _).toInt; rw [← ey0]; omega) (by first | exact Or.inl (by omega) | exact Or.inr (by show -(f_owed _).toInt < -(f_owed _).toInt; rw [← ey1, ← ey2]; omega)) | exact hpk.skip (by omega) (by omega) (fun h => by have h : 0 < (f_owed j.toNatClampNeg).toInt := h; rw [← ey0] at h; omega) | exact hpk.keep (by omega) (by omega) (by omega) (by show -(f_owed _).toInt ≤ -(f_owed _).toInt; rw [← ey1, ← ey2]; omega)) ls (lv_sub hl [0, 1, 2] rfl)
  exact loop4 ((v_size.toInt - (0 : Int32).toInt).toNat + 1) (-1) 0 (by omega) (by omega) (by omega) (IsPick.zero (by omega) (by omega)) ls (lv_sub hl [0, 1, 2] rfl)

theorem in_e_say_X4 : ∀ w ∈ wsX40, w ∈ wsX4_say := tl_X4_say_X4
set_option maxHeartbeats 8000000 in
set_option maxRecDepth 100000 in
theorem e_say {l : Launch} {D : va_G} {cI cZ cB : ClassId} {sz : Nat} {h a_weekly a_doubled a_dueOn a_owed a_said a_spared a_leaveOf a_leaveFrom a_leaveTo : Nat} {v_size v_rows : Int32} {f_owed f_said : Nat → Int32} {x : Int32} (hv_size0 : 0 ≤ v_size.toInt) (hv_size1 : v_size.toInt ≤ 40) (hx0 : 0 ≤ x.toInt) (hx : x.toInt ≤ 1000) : Met l yX4_say wsX4_say ({ frames := 1, cells := 0, slots := 0, locals := 22 }) (RW D cI cZ cB [.ref h, .int x] sz [(h, .inr (4, [.ref a_weekly, .ref a_doubled, .ref a_dueOn, .ref a_owed, .ref a_said, .ref a_spared, .ref a_leaveOf, .ref a_leaveFrom, .ref a_leaveTo, .int v_size, .int v_rows])), (a_owed, .inl (cI, 40, .inl f_owed)), (a_said, .inl (cI, 40, .inl f_said))]) (va_Qi (fun (r : Int32) (u : (Nat → Int32) × (Nat → Int32)) => SayR v_size.toInt x.toNatClampNeg f_owed f_said u.1 u.2) (BW D [(h, .inr (4, [.ref a_weekly, .ref a_doubled, .ref a_dueOn, .ref a_owed, .ref a_said, .ref a_spared, .ref a_leaveOf, .ref a_leaveFrom, .ref a_leaveTo, .int v_size, .int v_rows])), (a_owed, .inl (cI, 40, .inl f_owed)), (a_said, .inl (cI, 40, .inl f_said))] sz (fun u : (Nat → Int32) × (Nat → Int32) => [(h, .inr (4, [.ref a_weekly, .ref a_doubled, .ref a_dueOn, .ref a_owed, .ref a_said, .ref a_spared, .ref a_leaveOf, .ref a_leaveFrom, .ref a_leaveTo, .int v_size, .int v_rows])), (a_owed, .inl (cI, 40, .inl u.1)), (a_said, .inl (cI, 40, .inl u.2))])) (va_A [(h, .inr (4, [.ref a_weekly, .ref a_doubled, .ref a_dueOn, .ref a_owed, .ref a_said, .ref a_spared, .ref a_leaveOf, .ref a_leaveFrom, .ref a_leaveTo, .int v_size, .int v_rows])), (a_owed, .inl (cI, 40, .inl f_owed)), (a_said, .inl (cI, 40, .inl f_said))] sz)) 0 (0) (va_A [(h, .inr (4, [.ref a_weekly, .ref a_doubled, .ref a_dueOn, .ref a_owed, .ref a_said, .ref a_spared, .ref a_leaveOf, .ref a_leaveFrom, .ref a_leaveTo, .int v_size, .int v_rows])), (a_owed, .inl (cI, 40, .inl f_owed)), (a_said, .inl (cI, 40, .inl f_said))] sz) := by
  refine rw_ret (cc := cX4_say) (maxL := 5) (ty := .int) (own := RX4) (by decide) rfl rfl (Nat.le_of_ble_eq_true rfl) ?_
  intro p e s m args below meth c Q A S hin hret hP hK hD hA hS ls hl
  obtain ⟨hx, hb, hml, hown, hts⟩ := id S
  have hl : lv_has ls 5 [(0, .ref h), (1, .int x)] := hl
  have kkm1 : (-1 : Int32).toInt = -1 := by decide
  have kk0 : (0 : Int32).toInt = 0 := by decide
  have kk1 : (1 : Int32).toInt = 1 := by decide
  have lk0 := hts (.fieldLink RX4 22 "AbbeyHours$Gifts" "owed" "[I") (List.mem_cons_of_mem _ (List.mem_append_left _ (List.mem_of_getElem? (i := 0) rfl)))
  have lk1 := hts (.fieldLink RX4 25 "AbbeyHours$Gifts" "said" "[I") (List.mem_cons_of_mem _ (List.mem_append_left _ (List.mem_of_getElem? (i := 1) rfl)))
  refine lv_iconst (v := 0) hx hb dX4_say_0 (by decide) ?_
  refine lv_istore_n (lv' := [(2, .int 0), (0, .ref h), (1, .int x)]) hx hb dX4_say_1 rfl hl (by decide) rfl (fun ls hl => ?_)
  refine lv_iconst (v := 0) hx hb dX4_say_2 (by decide) ?_
  refine lv_istore_n (lv' := [(3, .int 0), (2, .int 0), (0, .ref h), (1, .int x)]) hx hb dX4_say_3 rfl hl (by decide) rfl (fun ls hl => ?_)
  have loop4 : ∀ (fuel : Nat) (ma : Int32) (j : Int32) (fo : Nat → Int32) (fs : Nat → Int32), x.toInt - j.toInt < (fuel : Int) → (0 ≤ j.toInt) → (j.toInt ≤ x.toInt) → (SayR v_size.toInt j.toNatClampNeg f_owed f_said fo fs) → ∀ (H : Heap) (locs : List Loc), va_P D vwCl [(h, .inr (4, [.ref a_weekly, .ref a_doubled, .ref a_dueOn, .ref a_owed, .ref a_said, .ref a_spared, .ref a_leaveOf, .ref a_leaveFrom, .ref a_leaveTo, .int v_size, .int v_rows])), (a_owed, .inl (cI, 40, .inl fo)), (a_said, .inl (cI, 40, .inl fs))] H → va_D A [(h, .inr (4, [.ref a_weekly, .ref a_doubled, .ref a_dueOn, .ref a_owed, .ref a_said, .ref a_spared, .ref a_leaveOf, .ref a_leaveFrom, .ref a_leaveTo, .int v_size, .int v_rows])), (a_owed, .inl (cI, 40, .inl fo)), (a_said, .inl (cI, 40, .inl fs))] → va_S A s.heap H locs → ∀ ls : Array Slot, lv_has ls 5 [(3, .int j), (2, .int ma), (0, .ref h), (1, .int x)] → W p l e ({ frames := 1, cells := 0, slots := 0, locals := 22 } : Room) s m args below meth c H locs 0 (0) Q (F0 m 4 ls []) := by
    intro fuel
    induction fuel with
    | zero =>
      intro ma j fo fs hmu hj0 hj1 hsa H locs hP hD hS ls hl
      exfalso; omega
    | succ fuel ih4 =>
      intro ma j fo fs hmu hj0 hj1 hsa H locs hP hD hS ls hl
      refine lv_iload_n hx hb dX4_say_4 rfl (lv_at hl 0 rfl) ?_
      refine lv_iload_n hx hb dX4_say_5 rfl (lv_at hl 3 rfl) ?_
      refine lv_icmp_ge (tgt := 54) hx hb dX4_say_6 (by decide) (fun c_1 => ?_) (fun c_1 => ?_)
      · have tc_1 := t_le c_1
        refine lv_iload_n hx hb dX4_say_54 rfl (lv_at hl 1 rfl) ?_
        exact hret ma (fo, fs) _ _ _ _ (show SayR v_size.toInt x.toNatClampNeg f_owed f_said fo fs from by rw [show x = j from i32_ext (by omega)]; exact hsa) rfl (hP.sub [0, 1, 2] rfl) (hD.sub [0, 1, 2] (by decide +kernel) rfl) hS dX4_say_55
      · have tc_1 := t_nle c_1
        refine lv_aload_n hx hb dX4_say_9 rfl (lv_at hl 2 rfl) ?_
        have hPc := hP.sub (ws' := [(h, .inr (4, [.ref a_weekly, .ref a_doubled, .ref a_dueOn, .ref a_owed, .ref a_said, .ref a_spared, .ref a_leaveOf, .ref a_leaveFrom, .ref a_leaveTo, .int v_size, .int v_rows])), (a_owed, .inl (cI, 40, .inl fo))]) [0, 1] rfl
        refine roV (As := []) (rest := []) S (e_mostOwed  (by omega) (by omega)) (cwV 0 hts gX4_say_X4_mostOwed rfl rfl rfl ⟨rfl, hd_X4_mostOwed⟩ ⟨Nat.le_of_ble_eq_true rfl, Nat.le_of_ble_eq_true rfl⟩) hK hPc (va_recv hK.1 hPc (ci := 4) (q0 := 0) rfl rfl) rfl hl.1 rfl (Nat.le_of_ble_eq_true rfl) dX4_say_10 ⟨Nat.le_of_ble_eq_true rfl, Nat.le_of_ble_eq_true rfl⟩ (fun r_mo hw_mo => ?_)
        have hw_mo : IsPick (okO fo) (keyO fo) v_size.toInt r_mo := hw_mo
        have hmr := hw_mo.rg
        refine lv_istore (lv' := [(4, .int r_mo), (3, .int j), (2, .int ma), (0, .ref h), (1, .int x)]) hx hb dX4_say_13 hl (by decide) rfl (fun ls hl => ?_)
        refine lv_iload hx hb dX4_say_15 (lv_at hl 0 rfl) ?_
        refine lv_iconst (v := (-1)) hx hb dX4_say_17 (by decide) ?_
        refine lv_icmp_ne (tgt := 23) hx hb dX4_say_18 (by decide) (fun c_2 => ?_) (fun c_2 => ?_)
        · have tc_2 := t_neq c_2
          refine lv_aload_n hx hb dX4_say_23 rfl (lv_at hl 3 rfl) ?_
          refine va_get (D := D) (ci := 4) (v := .ref a_owed) (C := RX4) (T := TX4) (N := 11) hx hb hts in_e_say_X4 hown hK.1 hP 0 rfl rfl 3 (by decide) lk0 (fun _ h9 => h9) rfl dX4_say_24 ?_
          refine lv_iload hx hb dX4_say_27 (lv_at hl 0 rfl) ?_
          refine lv_dup2_11 hx hb dX4_say_29 rfl rfl ?_
          refine va_iald hx hb hK.1 hP 1 0 rfl rfl (t_in (by omega) (by omega)) dX4_say_30 ?_
          refine lv_topi (fun go3 ego3 => ?_)
          refine lv_iconst (v := 1) hx hb dX4_say_31 (by decide) ?_
          refine lv_isub hx hb dX4_say_32 ?_
          refine lv_topi (fun go2 ego2 => ?_)
          refine va_iast hx hb hK.1 hP hD hS 1 0 rfl rfl (t_in (by omega) (by omega)) dX4_say_33 (fun H locs hP hD hS => ?_)
          obtain ⟨go1, ego1⟩ : ∃ z : Nat → Int32, z = upd fo ((r_mo : Int32).toNatClampNeg) go2 := ⟨_, rfl⟩
          rw [← ego1] at hP hD
          have hP : va_P D vwCl [(h, .inr (4, [.ref a_weekly, .ref a_doubled, .ref a_dueOn, .ref a_owed, .ref a_said, .ref a_spared, .ref a_leaveOf, .ref a_leaveFrom, .ref a_leaveTo, .int v_size, .int v_rows])), (a_owed, .inl (cI, 40, .inl go1)), (a_said, .inl (cI, 40, .inl fs))] H := hP
          have hD : va_D A [(h, .inr (4, [.ref a_weekly, .ref a_doubled, .ref a_dueOn, .ref a_owed, .ref a_said, .ref a_spared, .ref a_leaveOf, .ref a_leaveFrom, .ref a_leaveTo, .int v_size, .int v_rows])), (a_owed, .inl (cI, 40, .inl go1)), (a_said, .inl (cI, 40, .inl fs))] := hD
          refine lv_aload_n hx hb dX4_say_34 rfl (lv_at hl 3 rfl) ?_
          refine va_get (D := D) (ci := 4) (v := .ref a_said) (C := RX4) (T := TX4) (N := 11) hx hb hts in_e_say_X4 hown hK.1 hP 0 rfl rfl 4 (by decide) lk1 (fun _ h9 => h9) rfl dX4_say_35 ?_
          refine lv_iload hx hb dX4_say_38 (lv_at hl 0 rfl) ?_
          refine lv_dup2_11 hx hb dX4_say_40 rfl rfl ?_
          refine va_iald hx hb hK.1 hP 2 0 rfl rfl (t_in (by omega) (by omega)) dX4_say_41 ?_
          refine lv_topi (fun gs3 egs3 => ?_)
          refine lv_iconst (v := 1) hx hb dX4_say_42 (by decide) ?_
          refine lv_iadd hx hb dX4_say_43 ?_
          refine lv_topi (fun gs2 egs2 => ?_)
          refine va_iast hx hb hK.1 hP hD hS 2 0 rfl rfl (t_in (by omega) (by omega)) dX4_say_44 (fun H locs hP hD hS => ?_)
          obtain ⟨gs1, egs1⟩ : ∃ z : Nat → Int32, z = upd fs ((r_mo : Int32).toNatClampNeg) gs2 := ⟨_, rfl⟩
          rw [← egs1] at hP hD
          have hP : va_P D vwCl [(h, .inr (4, [.ref a_weekly, .ref a_doubled, .ref a_dueOn, .ref a_owed, .ref a_said, .ref a_spared, .ref a_leaveOf, .ref a_leaveFrom, .ref a_leaveTo, .int v_size, .int v_rows])), (a_owed, .inl (cI, 40, .inl go1)), (a_said, .inl (cI, 40, .inl gs1))] H := hP
          have hD : va_D A [(h, .inr (4, [.ref a_weekly, .ref a_doubled, .ref a_dueOn, .ref a_owed, .ref a_said, .ref a_spared, .ref a_leaveOf, .ref a_leaveFrom, .ref a_leaveTo, .int v_size, .int v_rows])), (a_owed, .inl (cI, 40, .inl go1)), (a_said, .inl (cI, 40, .inl gs1))] := hD
          obtain ⟨x_9, ex_9⟩ : ∃ y : Int32, y = ma + 1 := ⟨_, rfl⟩
          refine lv_iinc (v := x_9) (lv' := [(2, .int x_9), (4, .int r_mo), (3, .int j), (0, .ref h), (1, .int x)]) hx hb dX4_say_45 hl (k := 2) rfl (by rw [ex_9]; rfl) (by decide) rfl (fun ls hl => ?_)
          obtain ⟨x_10, ex_10⟩ : ∃ y : Int32, y = j + 1 := ⟨_, rfl⟩
          refine lv_iinc (v := x_10) (lv' := [(3, .int x_10), (2, .int x_9), (4, .int r_mo), (0, .ref h), (1, .int x)]) hx hb dX4_say_48 hl (k := 2) rfl (by rw [ex_10]; rfl) (by decide) rfl (fun ls hl => ?_)
          first | have tx_10 := t_add ex_10 (by omega) (by omega) | skip
          refine lv_goto (tgt := 4) hx hb dX4_say_51 (by decide) ?_
          exact ih4 x_9 x_10 go1 gs1 (by omega) (by omega) (by omega) (by rw [ix1 (x := x_10) (i := j) (by omega) (by omega)]; exact ⟨fo, fs, hsa, r_mo, hw_mo, Or.inr ⟨by omega, by rw [ego1, ego2, ego3], by rw [egs1, egs2, egs3]⟩⟩) _ _ hP hD hS ls (lv_sub hl [0, 1, 3, 4] rfl)
        · have tc_2 := t_eq c_2
          refine lv_iload_n hx hb dX4_say_21 rfl (lv_at hl 2 rfl) ?_
          exact hret ma (fo, fs) _ _ _ _ (show SayR v_size.toInt x.toNatClampNeg f_owed f_said fo fs from by have e : x.toNatClampNeg = j.toNatClampNeg + (x.toNatClampNeg - j.toNatClampNeg) := by { have := t_cl (x := x) (by omega); have := t_cl (x := j) (by omega); omega }; rw [e]; exact hsa.more hw_mo (by omega) _) rfl (hP.sub [0, 1, 2] rfl) (hD.sub [0, 1, 2] (by decide +kernel) rfl) hS dX4_say_22
  exact loop4 ((x.toInt - (0 : Int32).toInt).toNat + 1) 0 0 f_owed f_said (by omega) (by omega) (by omega) (by rw [ix0]; exact ⟨rfl, rfl⟩) _ _ hP hD hS ls (lv_sub hl [0, 1, 2, 3] rfl)

theorem in_e_able_X5 : ∀ w ∈ wsX50, w ∈ wsX5_ablePriests := tl_X5_ablePriests_X5
set_option maxHeartbeats 8000000 in
set_option maxRecDepth 100000 in
theorem e_able {l : Launch} {D : va_G} {cI cZ cB : ClassId} {h a_priests a_barred a_cameOn a_absent a_absentFrom a_absentTo : Nat} {v_size v_rows : Int32} {f_priests f_cameOn f_absent f_absentFrom f_absentTo : Nat → Int32} {d : Int32} (hv_size0 : 0 ≤ v_size.toInt) (hv_size1 : v_size.toInt ≤ 24) (hv_rows0 : 0 ≤ v_rows.toInt) (hv_rows1 : v_rows.toInt ≤ 60) : Met l yX5_ablePriests wsX5_ablePriests ({ frames := 2, cells := 0, slots := 0, locals := 45 }) (RO D cI cZ cB [.ref h, .int d] [(h, .inr (5, [.ref a_priests, .ref a_barred, .ref a_cameOn, .ref a_absent, .ref a_absentFrom, .ref a_absentTo, .int v_size, .int v_rows])), (a_priests, .inl (cZ, 24, .inl f_priests)), (a_cameOn, .inl (cI, 24, .inl f_cameOn)), (a_absent, .inl (cI, 60, .inl f_absent)), (a_absentFrom, .inl (cI, 60, .inl f_absentFrom)), (a_absentTo, .inl (cI, 60, .inl f_absentTo))]) (vp_Si (fun r : Int32 => CntR (PriP f_priests f_cameOn f_absent f_absentFrom f_absentTo v_rows.toInt d) v_size.toNatClampNeg r.toNatClampNeg ∧ 0 ≤ r.toInt ∧ r.toInt ≤ v_size.toInt)) 0 0 (fun _ => False) := by
  refine ro_ret (cc := cX5_ablePriests) (maxL := 4) (ty := .int) (own := RX5) (by decide) rfl rfl (Nat.le_of_ble_eq_true rfl) ?_
  intro p e s m args below meth c Q S hret hP hK ls hl
  obtain ⟨hx, hb, hml, hown, hts⟩ := id S
  have hl : lv_has ls 4 [(0, .ref h), (1, .int d)] := hl
  have kk0 : (0 : Int32).toInt = 0 := by decide
  have kk1 : (1 : Int32).toInt = 1 := by decide
  have lk0 := hts (.fieldLink RX5 31 "AbbeyHours$Monks" "size" "I") (List.mem_cons_of_mem _ (List.mem_append_left _ (List.mem_of_getElem? (i := 0) rfl)))
  have lk1 := hts (.fieldLink RX5 11 "AbbeyHours$Monks" "priests" "[Z") (List.mem_cons_of_mem _ (List.mem_append_left _ (List.mem_of_getElem? (i := 1) rfl)))
  refine lv_iconst (v := 0) hx hb dX5_ablePriests_0 (by decide) ?_
  refine lv_istore_n (lv' := [(2, .int 0), (0, .ref h), (1, .int d)]) hx hb dX5_ablePriests_1 rfl hl (by decide) rfl (fun ls hl => ?_)
  refine lv_iconst (v := 0) hx hb dX5_ablePriests_2 (by decide) ?_
  refine lv_istore_n (lv' := [(3, .int 0), (2, .int 0), (0, .ref h), (1, .int d)]) hx hb dX5_ablePriests_3 rfl hl (by decide) rfl (fun ls hl => ?_)
  have loop4 : ∀ (fuel : Nat) (a : Int32) (j : Int32), v_size.toInt - j.toInt < (fuel : Int) → (0 ≤ j.toInt) → (j.toInt ≤ v_size.toInt) → (0 ≤ a.toInt) → (a.toInt ≤ j.toInt) → (CntR (PriP f_priests f_cameOn f_absent f_absentFrom f_absentTo v_rows.toInt d) j.toNatClampNeg a.toNatClampNeg) → ∀ ls : Array Slot, lv_has ls 4 [(3, .int j), (2, .int a), (0, .ref h), (1, .int d)] → W p l e ({ frames := 2, cells := 0, slots := 0, locals := 45 } : Room) s m args below meth c s.heap [] 0 0 Q (F0 m 4 ls []) := by
    intro fuel
    induction fuel with
    | zero =>
      intro a j hmu hj0 hj1 ha0 ha1 hcn ls hl
      exfalso; omega
    | succ fuel ih4 =>
      intro a j hmu hj0 hj1 ha0 ha1 hcn ls hl
      refine lv_iload_n hx hb dX5_ablePriests_4 rfl (lv_at hl 0 rfl) ?_
      refine lv_aload_n hx hb dX5_ablePriests_5 rfl (lv_at hl 2 rfl) ?_
      refine va_get (D := D) (ci := 5) (v := .int v_size) (C := RX5) (T := TX5) (N := 8) hx hb hts in_e_able_X5 hown hK.1 hP 0 rfl rfl 6 (by decide) lk0 (fun _ h9 => h9) rfl dX5_ablePriests_6 ?_
      refine lv_icmp_ge (tgt := 39) hx hb dX5_ablePriests_9 (by decide) (fun c_1 => ?_) (fun c_1 => ?_)
      · have tc_1 := t_le c_1
        refine lv_iload_n hx hb dX5_ablePriests_39 rfl (lv_at hl 1 rfl) ?_
        exact hret a _ _ (show CntR (PriP f_priests f_cameOn f_absent f_absentFrom f_absentTo v_rows.toInt d) v_size.toNatClampNeg a.toNatClampNeg ∧ 0 ≤ a.toInt ∧ a.toInt ≤ v_size.toInt from ⟨by rw [show v_size = j from i32_ext (by omega)]; exact hcn, by omega, by omega⟩) rfl dX5_ablePriests_40
      · have tc_1 := t_nle c_1
        refine lv_aload_n hx hb dX5_ablePriests_12 rfl (lv_at hl 2 rfl) ?_
        refine va_get (D := D) (ci := 5) (v := .ref a_priests) (C := RX5) (T := TX5) (N := 8) hx hb hts in_e_able_X5 hown hK.1 hP 0 rfl rfl 0 (by decide) lk1 (fun _ h9 => h9) rfl dX5_ablePriests_13 ?_
        refine lv_iload_n hx hb dX5_ablePriests_16 rfl (lv_at hl 0 rfl) ?_
        refine va_zald hx hb hK.1 hP 1 1 rfl rfl (t_in (by omega) (by omega)) dX5_ablePriests_17 ?_
        refine lv_topi (fun yp eyp => ?_)
        refine lv_if_eq (tgt := 33) hx hb dX5_ablePriests_18 (by decide) (fun cp => ?_) (fun cp => ?_)
        · have tcp := t_eq cp
          obtain ⟨x_4, ex_4⟩ : ∃ y : Int32, y = j + 1 := ⟨_, rfl⟩
          refine lv_iinc (v := x_4) (lv' := [(3, .int x_4), (2, .int a), (0, .ref h), (1, .int d)]) hx hb dX5_ablePriests_33 hl (k := 0) rfl (by rw [ex_4]; rfl) (by decide) rfl (fun ls hl => ?_)
          first | have tx_4 := t_add ex_4 (by omega) (by omega) | skip
          refine lv_goto (tgt := 4) hx hb dX5_ablePriests_36 (by decide) ?_
          exact ih4 a x_4 (by omega) (by omega) (by omega) (by omega) (by omega) (by rw [ix1 (x := x_4) (i := j) (by omega) (by omega)]; first | exact ⟨_, hcn, Or.inl ⟨(PriP_ix (by omega)).mpr ⟨by rw [← eyp]; exact cp, if1 hw_ab (by omega)⟩, ix1 (i := a) (by omega) (by omega)⟩⟩ | exact ⟨_, hcn, Or.inr ⟨fun h => by have h := (PriP_ix (by omega)).mp h; first | exact h.1 (by rw [← eyp]; exact cp) | exact if0 hw_ab (by omega) h.2, rfl⟩⟩) ls (lv_sub hl [0, 1, 2, 3] rfl)
        · have tcp := t_neq cp
          refine lv_aload_n hx hb dX5_ablePriests_21 rfl (lv_at hl 2 rfl) ?_
          refine lv_iload_n hx hb dX5_ablePriests_22 rfl (lv_at hl 0 rfl) ?_
          refine lv_iload_n hx hb dX5_ablePriests_23 rfl (lv_at hl 3 rfl) ?_
          have hPc := hP.sub (ws' := [(h, .inr (5, [.ref a_priests, .ref a_barred, .ref a_cameOn, .ref a_absent, .ref a_absentFrom, .ref a_absentTo, .int v_size, .int v_rows])), (a_cameOn, .inl (cI, 24, .inl f_cameOn)), (a_absent, .inl (cI, 60, .inl f_absent)), (a_absentFrom, .inl (cI, 60, .inl f_absentFrom)), (a_absentTo, .inl (cI, 60, .inl f_absentTo))]) [0, 2, 3, 4, 5] rfl
          refine roV (As := [.int j, .int d]) (rest := []) S (e_isAble  (by omega) (by omega) (by omega) (by omega) (by omega) (by omega)) (cwV 2 hts gX5_ablePriests_X5_isAble rfl rfl rfl ⟨rfl, hd_X5_isAble⟩ ⟨Nat.le_of_ble_eq_true rfl, Nat.le_of_ble_eq_true rfl⟩) hK hPc (va_recv hK.1 hPc (ci := 5) (q0 := 0) rfl rfl) rfl hl.1 rfl (Nat.le_of_ble_eq_true rfl) dX5_ablePriests_24 ⟨Nat.le_of_ble_eq_true rfl, Nat.le_of_ble_eq_true rfl⟩ (fun r_ab hw_ab => ?_)
          have hw_ab : (r_ab.toInt = 1 ∧ AbleP f_cameOn f_absent f_absentFrom f_absentTo v_rows.toInt j d) ∨ (r_ab.toInt = 0 ∧ ¬ AbleP f_cameOn f_absent f_absentFrom f_absentTo v_rows.toInt j d) := hw_ab
          have h1_ab := if01 hw_ab
          refine lv_if_eq (tgt := 33) hx hb dX5_ablePriests_27 (by decide) (fun c_5 => ?_) (fun c_5 => ?_)
          · have tc_5 := t_eq c_5
            obtain ⟨x_6, ex_6⟩ : ∃ y : Int32, y = j + 1 := ⟨_, rfl⟩
            refine lv_iinc (v := x_6) (lv' := [(3, .int x_6), (2, .int a), (0, .ref h), (1, .int d)]) hx hb dX5_ablePriests_33 hl (k := 0) rfl (by rw [ex_6]; rfl) (by decide) rfl (fun ls hl => ?_)
            first | have tx_6 := t_add ex_6 (by omega) (by omega) | skip
            refine lv_goto (tgt := 4) hx hb dX5_ablePriests_36 (by decide) ?_
            exact ih4 a x_6 (by omega) (by omega) (by omega) (by omega) (by omega) (by rw [ix1 (x := x_6) (i := j) (by omega) (by omega)]; first | exact ⟨_, hcn, Or.inl ⟨(PriP_ix (by omega)).mpr ⟨by rw [← eyp]; exact cp, if1 hw_ab (by omega)⟩, ix1 (i := a) (by omega) (by omega)⟩⟩ | exact ⟨_, hcn, Or.inr ⟨fun h => by have h := (PriP_ix (by omega)).mp h; first | exact h.1 (by rw [← eyp]; exact cp) | exact if0 hw_ab (by omega) h.2, rfl⟩⟩) ls (lv_sub hl [0, 1, 2, 3] rfl)
          · have tc_5 := t_neq c_5
            obtain ⟨x_7, ex_7⟩ : ∃ y : Int32, y = a + 1 := ⟨_, rfl⟩
            refine lv_iinc (v := x_7) (lv' := [(2, .int x_7), (3, .int j), (0, .ref h), (1, .int d)]) hx hb dX5_ablePriests_30 hl (k := 1) rfl (by rw [ex_7]; rfl) (by decide) rfl (fun ls hl => ?_)
            first | have tx_7 := t_add ex_7 (by omega) (by omega) | skip
            obtain ⟨x_8, ex_8⟩ : ∃ y : Int32, y = j + 1 := ⟨_, rfl⟩
            refine lv_iinc (v := x_8) (lv' := [(3, .int x_8), (2, .int x_7), (0, .ref h), (1, .int d)]) hx hb dX5_ablePriests_33 hl (k := 1) rfl (by rw [ex_8]; rfl) (by decide) rfl (fun ls hl => ?_)
            first | have tx_8 := t_add ex_8 (by omega) (by omega) | skip
            refine lv_goto (tgt := 4) hx hb dX5_ablePriests_36 (by decide) ?_
            exact ih4 x_7 x_8 (by omega) (by omega) (by omega) (by omega) (by omega) (by rw [ix1 (x := x_8) (i := j) (by omega) (by omega)]; first | exact ⟨_, hcn, Or.inl ⟨(PriP_ix (by omega)).mpr ⟨by rw [← eyp]; exact cp, if1 hw_ab (by omega)⟩, ix1 (i := a) (by omega) (by omega)⟩⟩ | exact ⟨_, hcn, Or.inr ⟨fun h => by have h := (PriP_ix (by omega)).mp h; first | exact h.1 (by rw [← eyp]; exact cp) | exact if0 hw_ab (by omega) h.2, rfl⟩⟩) ls (lv_sub hl [0, 1, 2, 3] rfl)
  exact loop4 ((v_size.toInt - (0 : Int32).toInt).toNat + 1) 0 0 (by omega) (by omega) (by omega) (by omega) (by omega) (by rw [ix0]; exact (rfl : (0 : Nat) = 0)) ls (lv_sub hl [0, 1, 2, 3] rfl)

