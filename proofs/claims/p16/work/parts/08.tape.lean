theorem in_t_length_X9 : ∀ w ∈ wsX90, w ∈ wsX9_length := tl_X9_length_X9
set_option maxHeartbeats 8000000 in
set_option maxRecDepth 100000 in
theorem t_length {l : Launch} {D : va_G} {cI cZ cB : ClassId} {h a_bytes : Nat} {v_length : Int32}  : Met l yX9_length wsX9_length ({ frames := 0, cells := 0, slots := 0, locals := 0 }) (RO D cI cZ cB [.ref h] [(h, .inr (8, [.ref a_bytes, .int v_length]))]) (vp_Si (fun r : Int32 => r = v_length)) 0 0 (fun _ => False) := by
  refine ro_ret (cc := cX9_length) (maxL := 1) (ty := .int) (own := RX9) (by decide) rfl rfl (Nat.le_of_ble_eq_true rfl) ?_
  intro p e s m args below meth c Q S hret hP hK ls hl
  obtain ⟨hx, hb, hml, hown, hts⟩ := id S
  have hl : lv_has ls 1 [(0, .ref h)] := hl
  have kk0 : (0 : Int32).toInt = 0 := by decide
  have lk0 := hts (.fieldLink RX9 13 "AbbeyHours$Tape" "length" "I") (List.mem_cons_of_mem _ (List.mem_append_left _ (List.mem_of_getElem? (i := 0) rfl)))
  refine lv_aload_n hx hb dX9_length_0 rfl (lv_at hl 0 rfl) ?_
  refine va_get (D := D) (ci := 8) (v := .int v_length) (C := RX9) (T := TX9) (N := 2) hx hb hts in_t_length_X9 hown hK.1 hP 0 rfl rfl 1 (by decide) lk0 (fun _ h9 => h9) rfl dX9_length_1 ?_
  exact hret v_length _ _ (show v_length = v_length from rfl) rfl dX9_length_4

theorem in_t_room_X9 : ∀ w ∈ wsX90, w ∈ wsX9_hasRoomForFeed := tl_X9_hasRoomForFeed_X9
set_option maxHeartbeats 8000000 in
set_option maxRecDepth 100000 in
theorem t_room {l : Launch} {D : va_G} {cI cZ cB : ClassId} {h a_bytes : Nat} {v_length : Int32} (hv_length0 : 0 ≤ v_length.toInt) (hv_length1 : v_length.toInt ≤ 600) : Met l yX9_hasRoomForFeed wsX9_hasRoomForFeed ({ frames := 0, cells := 0, slots := 0, locals := 0 }) (RO D cI cZ cB [.ref h] [(h, .inr (8, [.ref a_bytes, .int v_length]))]) (vp_Si (fun r : Int32 => (r.toInt = 1 ∧ v_length.toInt ≤ 580) ∨ (r.toInt = 0 ∧ 580 < v_length.toInt))) 0 0 (fun _ => False) := by
  refine ro_ret (cc := cX9_hasRoomForFeed) (maxL := 1) (ty := .boolean) (own := RX9) (by decide) rfl rfl (Nat.le_of_ble_eq_true rfl) ?_
  intro p e s m args below meth c Q S hret hP hK ls hl
  obtain ⟨hx, hb, hml, hown, hts⟩ := id S
  have hl : lv_has ls 1 [(0, .ref h)] := hl
  have kk0 : (0 : Int32).toInt = 0 := by decide
  have kk1 : (1 : Int32).toInt = 1 := by decide
  have kk20 : (20 : Int32).toInt = 20 := by decide
  have kk600 : (600 : Int32).toInt = 600 := by decide
  have lk0 := hts (.fieldLink RX9 13 "AbbeyHours$Tape" "length" "I") (List.mem_cons_of_mem _ (List.mem_append_left _ (List.mem_of_getElem? (i := 0) rfl)))
  refine lv_aload_n hx hb dX9_hasRoomForFeed_0 rfl (lv_at hl 0 rfl) ?_
  refine va_get (D := D) (ci := 8) (v := .int v_length) (C := RX9) (T := TX9) (N := 2) hx hb hts in_t_room_X9 hown hK.1 hP 0 rfl rfl 1 (by decide) lk0 (fun _ h9 => h9) rfl dX9_hasRoomForFeed_1 ?_
  refine lv_bipush (v := 20) hx hb dX9_hasRoomForFeed_4 (by decide) ?_
  refine lv_iadd hx hb dX9_hasRoomForFeed_6 ?_
  refine lv_topi (fun x_1 ex_1 => ?_)
  first | have tx_1 := t_add ex_1 (by omega) (by omega) | skip
  refine lv_sipush (v := 600) hx hb dX9_hasRoomForFeed_7 (by decide) ?_
  refine lv_icmp_gt (tgt := 17) hx hb dX9_hasRoomForFeed_10 (by decide) (fun c_2 => ?_) (fun c_2 => ?_)
  · have tc_2 := t_lt c_2
    refine lv_iconst (v := 0) hx hb dX9_hasRoomForFeed_17 (by decide) ?_
    exact hret 0 _ _ (show ((0 : Int32).toInt = 1 ∧ v_length.toInt ≤ 580) ∨ ((0 : Int32).toInt = 0 ∧ 580 < v_length.toInt) from by omega) rfl dX9_hasRoomForFeed_18
  · have tc_2 := t_nlt c_2
    refine lv_iconst (v := 1) hx hb dX9_hasRoomForFeed_13 (by decide) ?_
    refine lv_goto (tgt := 18) hx hb dX9_hasRoomForFeed_14 (by decide) ?_
    exact hret 1 _ _ (show ((1 : Int32).toInt = 1 ∧ v_length.toInt ≤ 580) ∨ ((1 : Int32).toInt = 0 ∧ 580 < v_length.toInt) from by omega) rfl dX9_hasRoomForFeed_18

theorem in_t_byteAt_X9 : ∀ w ∈ wsX90, w ∈ wsX9_byteAt := tl_X9_byteAt_X9
set_option maxHeartbeats 8000000 in
set_option maxRecDepth 100000 in
theorem t_byteAt {l : Launch} {D : va_G} {cI cZ cB : ClassId} {h a_bytes : Nat} {v_length : Int32} {f_bytes : Nat → Int32} {i : Int32} (hv_length0 : 0 ≤ v_length.toInt) (hv_length1 : v_length.toInt ≤ 600) : Met l yX9_byteAt wsX9_byteAt ({ frames := 0, cells := 0, slots := 0, locals := 0 }) (RO D cI cZ cB [.ref h, .int i] [(h, .inr (8, [.ref a_bytes, .int v_length])), (a_bytes, .inl (cB, 600, .inl f_bytes))]) (vp_Si (fun r : Int32 => True)) 0 0 (fun _ => False) := by
  refine ro_ret (cc := cX9_byteAt) (maxL := 2) (ty := .int) (own := RX9) (by decide) rfl rfl (Nat.le_of_ble_eq_true rfl) ?_
  intro p e s m args below meth c Q S hret hP hK ls hl
  obtain ⟨hx, hb, hml, hown, hts⟩ := id S
  have hl : lv_has ls 2 [(0, .ref h), (1, .int i)] := hl
  have kk0 : (0 : Int32).toInt = 0 := by decide
  have lk0 := hts (.fieldLink RX9 13 "AbbeyHours$Tape" "length" "I") (List.mem_cons_of_mem _ (List.mem_append_left _ (List.mem_of_getElem? (i := 0) rfl)))
  have lk1 := hts (.fieldLink RX9 9 "AbbeyHours$Tape" "bytes" "[B") (List.mem_cons_of_mem _ (List.mem_append_left _ (List.mem_of_getElem? (i := 1) rfl)))
  refine lv_iload_n hx hb dX9_byteAt_0 rfl (lv_at hl 1 rfl) ?_
  refine lv_if_lt (tgt := 21) hx hb dX9_byteAt_1 (by decide) (fun c_1 => ?_) (fun c_1 => ?_)
  · have tc_1 := t_lt c_1
    refine lv_iconst (v := 0) hx hb dX9_byteAt_21 (by decide) ?_
    exact hret 0 _ _ (show True from trivial) rfl dX9_byteAt_22
  · have tc_1 := t_nlt c_1
    refine lv_iload_n hx hb dX9_byteAt_4 rfl (lv_at hl 1 rfl) ?_
    refine lv_aload_n hx hb dX9_byteAt_5 rfl (lv_at hl 0 rfl) ?_
    refine va_get (D := D) (ci := 8) (v := .int v_length) (C := RX9) (T := TX9) (N := 2) hx hb hts in_t_byteAt_X9 hown hK.1 hP 0 rfl rfl 1 (by decide) lk0 (fun _ h9 => h9) rfl dX9_byteAt_6 ?_
    refine lv_icmp_ge (tgt := 21) hx hb dX9_byteAt_9 (by decide) (fun c_2 => ?_) (fun c_2 => ?_)
    · have tc_2 := t_le c_2
      refine lv_iconst (v := 0) hx hb dX9_byteAt_21 (by decide) ?_
      exact hret 0 _ _ (show True from trivial) rfl dX9_byteAt_22
    · have tc_2 := t_nle c_2
      refine lv_aload_n hx hb dX9_byteAt_12 rfl (lv_at hl 0 rfl) ?_
      refine va_get (D := D) (ci := 8) (v := .ref a_bytes) (C := RX9) (T := TX9) (N := 2) hx hb hts in_t_byteAt_X9 hown hK.1 hP 0 rfl rfl 0 (by decide) lk1 (fun _ h9 => h9) rfl dX9_byteAt_13 ?_
      refine lv_iload_n hx hb dX9_byteAt_16 rfl (lv_at hl 1 rfl) ?_
      refine va_bald hx hb hK.1 hP 1 2 rfl rfl (t_in (by omega) (by omega)) dX9_byteAt_17 ?_
      refine lv_topi (fun y_3 ey_3 => ?_)
      refine lv_goto (tgt := 22) hx hb dX9_byteAt_18 (by decide) ?_
      exact hret y_3 _ _ (show True from trivial) rfl dX9_byteAt_22

theorem in_t_wipe_X9 : ∀ w ∈ wsX90, w ∈ wsX9_wipe := tl_X9_wipe_X9
set_option maxHeartbeats 8000000 in
set_option maxRecDepth 100000 in
theorem t_wipe {l : Launch} {D : va_G} {cI cZ cB : ClassId} {sz : Nat} {h a_bytes : Nat} {v_length : Int32}  : Met l yX9_wipe wsX9_wipe ({ frames := 0, cells := 0, slots := 0, locals := 0 }) (RW D cI cZ cB [.ref h] sz [(h, .inr (8, [.ref a_bytes, .int v_length]))]) (va_Qv (fun u : Int32 => u = 0) (BW D [(h, .inr (8, [.ref a_bytes, .int v_length]))] sz (fun u : Int32 => [(h, .inr (8, [.ref a_bytes, .int u]))])) (va_A [(h, .inr (8, [.ref a_bytes, .int v_length]))] sz)) 0 0 (va_A [(h, .inr (8, [.ref a_bytes, .int v_length]))] sz) := by
  refine rw_retv (cc := cX9_wipe) (maxL := 1) (own := RX9) (by decide) rfl rfl (Nat.le_of_ble_eq_true rfl) ?_
  intro p e s m args below meth c Q A S hin hret hP hK hD hA hS ls hl
  obtain ⟨hx, hb, hml, hown, hts⟩ := id S
  have hl : lv_has ls 1 [(0, .ref h)] := hl
  have kk0 : (0 : Int32).toInt = 0 := by decide
  have lk0 := hts (.fieldLink RX9 13 "AbbeyHours$Tape" "length" "I") (List.mem_cons_of_mem _ (List.mem_append_left _ (List.mem_of_getElem? (i := 0) rfl)))
  refine lv_aload_n hx hb dX9_wipe_0 rfl (lv_at hl 0 rfl) ?_
  refine lv_iconst (v := 0) hx hb dX9_wipe_1 (by decide) ?_
  refine va_put (D := D) (ci := 8) (v := .int 0) (ty := .int) (C := RX9) (T := TX9) (N := 2) hx hb hts in_t_wipe_X9 tyX9 tyX9_ok nmX9 hown hK.1 hP hD hS 0 rfl rfl 1 (by decide) lk0 (fun _ h9 => h9) rfl (by decide +kernel) rfl rfl (Nat.le_of_ble_eq_true rfl) dX9_wipe_2 (fun H locs hP hD hS => ?_)
  have hP : va_P D vwCl [(h, .inr (8, [.ref a_bytes, .int 0]))] H := hP
  have hD : va_D A [(h, .inr (8, [.ref a_bytes, .int 0]))] := hD
  exact hret 0 _ _ _ _ (show (0 : Int32) = 0 from rfl) (hP.sub [0] rfl) (hD.sub [0] (by decide +kernel) rfl) hS dX9_wipe_5

theorem in_t_put_X9 : ∀ w ∈ wsX90, w ∈ wsX9_put := tl_X9_put_X9
set_option maxHeartbeats 8000000 in
set_option maxRecDepth 100000 in
theorem t_put {l : Launch} {D : va_G} {cI cZ cB : ClassId} {sz : Nat} {h a_bytes : Nat} {v_length : Int32} {f_bytes : Nat → Int32} {x : Int32} (hv_length0 : 0 ≤ v_length.toInt) (hv_length1 : v_length.toInt ≤ 600) : Met l yX9_put wsX9_put ({ frames := 0, cells := 0, slots := 0, locals := 0 }) (RW D cI cZ cB [.ref h, .int x] sz [(h, .inr (8, [.ref a_bytes, .int v_length])), (a_bytes, .inl (cB, 600, .inl f_bytes))]) (va_Qv (fun u : Int32 × (Nat → Int32) => (v_length.toInt ≤ 596 → u.1.toInt = v_length.toInt + 4) ∧ 0 ≤ u.1.toInt ∧ u.1.toInt ≤ 600) (BW D [(h, .inr (8, [.ref a_bytes, .int v_length])), (a_bytes, .inl (cB, 600, .inl f_bytes))] sz (fun u : Int32 × (Nat → Int32) => [(h, .inr (8, [.ref a_bytes, .int u.1])), (a_bytes, .inl (cB, 600, .inl u.2))])) (va_A [(h, .inr (8, [.ref a_bytes, .int v_length])), (a_bytes, .inl (cB, 600, .inl f_bytes))] sz)) 0 0 (va_A [(h, .inr (8, [.ref a_bytes, .int v_length])), (a_bytes, .inl (cB, 600, .inl f_bytes))] sz) := by
  refine rw_retv (cc := cX9_put) (maxL := 3) (own := RX9) (by decide) rfl rfl (Nat.le_of_ble_eq_true rfl) ?_
  intro p e s m args below meth c Q A S hin hret hP hK hD hA hS ls hl
  obtain ⟨hx, hb, hml, hown, hts⟩ := id S
  have hl : lv_has ls 3 [(0, .ref h), (1, .int x)] := hl
  have kkm8 : (-8 : Int32).toInt = -8 := by decide
  have kk0 : (0 : Int32).toInt = 0 := by decide
  have kk1 : (1 : Int32).toInt = 1 := by decide
  have kk24 : (24 : Int32).toInt = 24 := by decide
  have kk600 : (600 : Int32).toInt = 600 := by decide
  have lk0 := hts (.fieldLink RX9 13 "AbbeyHours$Tape" "length" "I") (List.mem_cons_of_mem _ (List.mem_append_left _ (List.mem_of_getElem? (i := 0) rfl)))
  have lk1 := hts (.fieldLink RX9 9 "AbbeyHours$Tape" "bytes" "[B") (List.mem_cons_of_mem _ (List.mem_append_left _ (List.mem_of_getElem? (i := 1) rfl)))
  refine lv_bipush (v := 24) hx hb dX9_put_0 (by decide) ?_
  refine lv_istore_n (lv' := [(2, .int 24), (0, .ref h), (1, .int x)]) hx hb dX9_put_2 rfl hl (by decide) rfl (fun ls hl => ?_)
  have loop3 : ∀ (fuel : Nat) (i : Int32) (w : Int32) (fb : Nat → Int32), i.toInt + 8 < (fuel : Int) → (-8 ≤ i.toInt) → (i.toInt ≤ 24) → ((24 - i.toInt) % 8 = 0) → (0 ≤ w.toInt) → (w.toInt ≤ 600) → (v_length.toInt ≤ 596 → 8 * w.toInt = 8 * v_length.toInt + (24 - i.toInt)) → ∀ (H : Heap) (locs : List Loc), va_P D vwCl [(h, .inr (8, [.ref a_bytes, .int w])), (a_bytes, .inl (cB, 600, .inl fb))] H → va_D A [(h, .inr (8, [.ref a_bytes, .int w])), (a_bytes, .inl (cB, 600, .inl fb))] → va_S A s.heap H locs → ∀ ls : Array Slot, lv_has ls 3 [(2, .int i), (0, .ref h), (1, .int x)] → W p l e ({ frames := 0, cells := 0, slots := 0, locals := 0 } : Room) s m args below meth c H locs 0 0 Q (F0 m 3 ls []) := by
    intro fuel
    induction fuel with
    | zero =>
      intro i w fb hmu hi0 hi1 hi8 hw0 hw1 hw2 H locs hP hD hS ls hl
      exfalso; omega
    | succ fuel ih3 =>
      intro i w fb hmu hi0 hi1 hi8 hw0 hw1 hw2 H locs hP hD hS ls hl
      refine lv_iload_n hx hb dX9_put_3 rfl (lv_at hl 0 rfl) ?_
      refine lv_if_lt (tgt := 46) hx hb dX9_put_4 (by decide) (fun c_1 => ?_) (fun c_1 => ?_)
      · have tc_1 := t_lt c_1
        exact hret (w, fb) _ _ _ _ (show (v_length.toInt ≤ 596 → w.toInt = v_length.toInt + 4) ∧ 0 ≤ w.toInt ∧ w.toInt ≤ 600 from by omega) (hP.sub [0, 1] rfl) (hD.sub [0, 1] (by decide +kernel) rfl) hS dX9_put_46
      · have tc_1 := t_nlt c_1
        refine lv_aload_n hx hb dX9_put_7 rfl (lv_at hl 1 rfl) ?_
        refine va_get (D := D) (ci := 8) (v := .int w) (C := RX9) (T := TX9) (N := 2) hx hb hts in_t_put_X9 hown hK.1 hP 0 rfl rfl 1 (by decide) lk0 (fun _ h9 => h9) rfl dX9_put_8 ?_
        refine lv_sipush (v := 600) hx hb dX9_put_11 (by decide) ?_
        refine lv_icmp_ge (tgt := 40) hx hb dX9_put_14 (by decide) (fun c_2 => ?_) (fun c_2 => ?_)
        · have tc_2 := t_le c_2
          obtain ⟨x_3, ex_3⟩ : ∃ y : Int32, y = i + (-8) := ⟨_, rfl⟩
          refine lv_iinc (v := x_3) (lv' := [(2, .int x_3), (0, .ref h), (1, .int x)]) hx hb dX9_put_40 hl (k := 0) rfl (by rw [ex_3]; rfl) (by decide) rfl (fun ls hl => ?_)
          first | have tx_3 := t_add ex_3 (by omega) (by omega) | skip
          refine lv_goto (tgt := 3) hx hb dX9_put_43 (by decide) ?_
          exact ih3 x_3 w fb (by omega) (by omega) (by omega) (by omega) (by omega) (by omega) (by omega) _ _ hP hD hS ls (lv_sub hl [0, 1, 2] rfl)
        · have tc_2 := t_nle c_2
          refine lv_aload_n hx hb dX9_put_17 rfl (lv_at hl 1 rfl) ?_
          refine va_get (D := D) (ci := 8) (v := .ref a_bytes) (C := RX9) (T := TX9) (N := 2) hx hb hts in_t_put_X9 hown hK.1 hP 0 rfl rfl 0 (by decide) lk1 (fun _ h9 => h9) rfl dX9_put_18 ?_
          refine lv_aload_n hx hb dX9_put_21 rfl (lv_at hl 1 rfl) ?_
          refine va_get (D := D) (ci := 8) (v := .int w) (C := RX9) (T := TX9) (N := 2) hx hb hts in_t_put_X9 hown hK.1 hP 0 rfl rfl 1 (by decide) lk0 (fun _ h9 => h9) rfl dX9_put_22 ?_
          refine lv_iload_n hx hb dX9_put_25 rfl (lv_at hl 2 rfl) ?_
          refine lv_iload_n hx hb dX9_put_26 rfl (lv_at hl 0 rfl) ?_
          refine lv_ishr hx hb dX9_put_27 ?_
          refine lv_topi (fun x_4 ex_4 => ?_)
          refine lv_i2b hx hb dX9_put_28 rfl ?_
          refine lv_topi (fun x_5 ex_5 => ?_)
          refine va_bast hx hb hK.1 hP hD hS 1 2 rfl rfl (t_in (by omega) (by omega)) dX9_put_29 (fun H locs hP hD hS => ?_)
          obtain ⟨g_6, eg_6⟩ : ∃ z : Nat → Int32, z = upd fb ((w : Int32).toNatClampNeg) (vp_nar .byte x_5) := ⟨_, rfl⟩
          rw [← eg_6] at hP hD
          have hP : va_P D vwCl [(h, .inr (8, [.ref a_bytes, .int w])), (a_bytes, .inl (cB, 600, .inl g_6))] H := hP
          have hD : va_D A [(h, .inr (8, [.ref a_bytes, .int w])), (a_bytes, .inl (cB, 600, .inl g_6))] := hD
          refine lv_aload_n hx hb dX9_put_30 rfl (lv_at hl 1 rfl) ?_
          refine lv_dup hx hb dX9_put_31 rfl ?_
          refine va_get (D := D) (ci := 8) (v := .int w) (C := RX9) (T := TX9) (N := 2) hx hb hts in_t_put_X9 hown hK.1 hP 0 rfl rfl 1 (by decide) lk0 (fun _ h9 => h9) rfl dX9_put_32 ?_
          refine lv_iconst (v := 1) hx hb dX9_put_35 (by decide) ?_
          refine lv_iadd hx hb dX9_put_36 ?_
          refine lv_topi (fun x_7 ex_7 => ?_)
          first | have tx_7 := t_add ex_7 (by omega) (by omega) | skip
          refine va_put (D := D) (ci := 8) (v := .int x_7) (ty := .int) (C := RX9) (T := TX9) (N := 2) hx hb hts in_t_put_X9 tyX9 tyX9_ok nmX9 hown hK.1 hP hD hS 0 rfl rfl 1 (by decide) lk0 (fun _ h9 => h9) rfl (by decide +kernel) rfl rfl (Nat.le_of_ble_eq_true rfl) dX9_put_37 (fun H locs hP hD hS => ?_)
          have hP : va_P D vwCl [(h, .inr (8, [.ref a_bytes, .int x_7])), (a_bytes, .inl (cB, 600, .inl g_6))] H := hP
          have hD : va_D A [(h, .inr (8, [.ref a_bytes, .int x_7])), (a_bytes, .inl (cB, 600, .inl g_6))] := hD
          obtain ⟨x_8, ex_8⟩ : ∃ y : Int32, y = i + (-8) := ⟨_, rfl⟩
          refine lv_iinc (v := x_8) (lv' := [(2, .int x_8), (0, .ref h), (1, .int x)]) hx hb dX9_put_40 hl (k := 0) rfl (by rw [ex_8]; rfl) (by decide) rfl (fun ls hl => ?_)
          first | have tx_8 := t_add ex_8 (by omega) (by omega) | skip
          refine lv_goto (tgt := 3) hx hb dX9_put_43 (by decide) ?_
          exact ih3 x_8 x_7 g_6 (by omega) (by omega) (by omega) (by omega) (by omega) (by omega) (by omega) _ _ hP hD hS ls (lv_sub hl [0, 1, 2] rfl)
  exact loop3 (((24 : Int32).toInt + 8).toNat + 1) 24 v_length f_bytes (by omega) (by omega) (by omega) (by omega) (by omega) (by omega) (by omega) _ _ hP hD hS ls (lv_sub hl [0, 1, 2] rfl)

theorem in_k_size_X5 : ∀ w ∈ wsX50, w ∈ wsX5_size := tl_X5_size_X5
set_option maxHeartbeats 8000000 in
set_option maxRecDepth 100000 in
theorem k_size {l : Launch} {D : va_G} {cI cZ cB : ClassId} {h a_priests a_barred a_cameOn a_absent a_absentFrom a_absentTo : Nat} {v_size v_rows : Int32}  : Met l yX5_size wsX5_size ({ frames := 0, cells := 0, slots := 0, locals := 0 }) (RO D cI cZ cB [.ref h] [(h, .inr (5, [.ref a_priests, .ref a_barred, .ref a_cameOn, .ref a_absent, .ref a_absentFrom, .ref a_absentTo, .int v_size, .int v_rows]))]) (vp_Si (fun r : Int32 => r = v_size)) 0 0 (fun _ => False) := by
  refine ro_ret (cc := cX5_size) (maxL := 1) (ty := .int) (own := RX5) (by decide) rfl rfl (Nat.le_of_ble_eq_true rfl) ?_
  intro p e s m args below meth c Q S hret hP hK ls hl
  obtain ⟨hx, hb, hml, hown, hts⟩ := id S
  have hl : lv_has ls 1 [(0, .ref h)] := hl
  have kk0 : (0 : Int32).toInt = 0 := by decide
  have lk0 := hts (.fieldLink RX5 31 "AbbeyHours$Monks" "size" "I") (List.mem_cons_of_mem _ (List.mem_append_left _ (List.mem_of_getElem? (i := 0) rfl)))
  refine lv_aload_n hx hb dX5_size_0 rfl (lv_at hl 0 rfl) ?_
  refine va_get (D := D) (ci := 5) (v := .int v_size) (C := RX5) (T := TX5) (N := 8) hx hb hts in_k_size_X5 hown hK.1 hP 0 rfl rfl 6 (by decide) lk0 (fun _ h9 => h9) rfl dX5_size_1 ?_
  exact hret v_size _ _ (show v_size = v_size from rfl) rfl dX5_size_4

theorem in_k_has_X5 : ∀ w ∈ wsX50, w ∈ wsX5_has := tl_X5_has_X5
set_option maxHeartbeats 8000000 in
set_option maxRecDepth 100000 in
theorem k_has {l : Launch} {D : va_G} {cI cZ cB : ClassId} {h a_priests a_barred a_cameOn a_absent a_absentFrom a_absentTo : Nat} {v_size v_rows : Int32} {i : Int32}  : Met l yX5_has wsX5_has ({ frames := 0, cells := 0, slots := 0, locals := 0 }) (RO D cI cZ cB [.ref h, .int i] [(h, .inr (5, [.ref a_priests, .ref a_barred, .ref a_cameOn, .ref a_absent, .ref a_absentFrom, .ref a_absentTo, .int v_size, .int v_rows]))]) (vp_Si (fun r : Int32 => (r.toInt = 1 ∧ 0 ≤ i.toInt ∧ i.toInt < v_size.toInt) ∨ (r.toInt = 0 ∧ (i.toInt < 0 ∨ v_size.toInt ≤ i.toInt)))) 0 0 (fun _ => False) := by
  refine ro_ret (cc := cX5_has) (maxL := 2) (ty := .boolean) (own := RX5) (by decide) rfl rfl (Nat.le_of_ble_eq_true rfl) ?_
  intro p e s m args below meth c Q S hret hP hK ls hl
  obtain ⟨hx, hb, hml, hown, hts⟩ := id S
  have hl : lv_has ls 2 [(0, .ref h), (1, .int i)] := hl
  have kk0 : (0 : Int32).toInt = 0 := by decide
  have kk1 : (1 : Int32).toInt = 1 := by decide
  have lk0 := hts (.fieldLink RX5 31 "AbbeyHours$Monks" "size" "I") (List.mem_cons_of_mem _ (List.mem_append_left _ (List.mem_of_getElem? (i := 0) rfl)))
  refine lv_iload_n hx hb dX5_has_0 rfl (lv_at hl 1 rfl) ?_
  refine lv_if_lt (tgt := 16) hx hb dX5_has_1 (by decide) (fun c_1 => ?_) (fun c_1 => ?_)
  · have tc_1 := t_lt c_1
    refine lv_iconst (v := 0) hx hb dX5_has_16 (by decide) ?_
    exact hret 0 _ _ (show ((0 : Int32).toInt = 1 ∧ 0 ≤ i.toInt ∧ i.toInt < v_size.toInt) ∨ ((0 : Int32).toInt = 0 ∧ (i.toInt < 0 ∨ v_size.toInt ≤ i.toInt)) from by omega) rfl dX5_has_17
  · have tc_1 := t_nlt c_1
    refine lv_iload_n hx hb dX5_has_4 rfl (lv_at hl 1 rfl) ?_
    refine lv_aload_n hx hb dX5_has_5 rfl (lv_at hl 0 rfl) ?_
    refine va_get (D := D) (ci := 5) (v := .int v_size) (C := RX5) (T := TX5) (N := 8) hx hb hts in_k_has_X5 hown hK.1 hP 0 rfl rfl 6 (by decide) lk0 (fun _ h9 => h9) rfl dX5_has_6 ?_
    refine lv_icmp_ge (tgt := 16) hx hb dX5_has_9 (by decide) (fun c_2 => ?_) (fun c_2 => ?_)
    · have tc_2 := t_le c_2
      refine lv_iconst (v := 0) hx hb dX5_has_16 (by decide) ?_
      exact hret 0 _ _ (show ((0 : Int32).toInt = 1 ∧ 0 ≤ i.toInt ∧ i.toInt < v_size.toInt) ∨ ((0 : Int32).toInt = 0 ∧ (i.toInt < 0 ∨ v_size.toInt ≤ i.toInt)) from by omega) rfl dX5_has_17
    · have tc_2 := t_nle c_2
      refine lv_iconst (v := 1) hx hb dX5_has_12 (by decide) ?_
      refine lv_goto (tgt := 17) hx hb dX5_has_13 (by decide) ?_
      exact hret 1 _ _ (show ((1 : Int32).toInt = 1 ∧ 0 ≤ i.toInt ∧ i.toInt < v_size.toInt) ∨ ((1 : Int32).toInt = 0 ∧ (i.toInt < 0 ∨ v_size.toInt ≤ i.toInt)) from by omega) rfl dX5_has_17

