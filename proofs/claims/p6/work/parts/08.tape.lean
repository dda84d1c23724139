theorem in_t_length_X9 : ∀ w ∈ wsX90, w ∈ wsX9_length := tl_X9_length_X9
set_option maxHeartbeats 8000000 in
set_option maxRecDepth 100000 in
theorem t_length {l : Launch} {D : va_G} {cI cZ cB : ClassId} {h a_bytes : Nat} {v_length : Int32}  : Met l yX9_length wsX9_length ({ frames := 0, cells := 0, slots := 0, locals := 0 }) (RO D cI cZ cB [.ref h] [(h, .inr (8, [.ref a_bytes, .int v_length]))]) (vp_Si (fun r : Int32 => r = v_length)) 0 0 (fun _ => False) := by
  refine ro_ret (cc := cX9_length) (maxL := 1) (ty := .int) (own := RX9) (by decide) rfl rfl (Nat.le_of_ble_eq_true rfl) ?_
  intro p e s m args below meth c Q S hret hP hK ls hl
  obtain ⟨hx, hb, hml, hown, hts⟩ := id S
  have hl : lv_has ls 1 [(0, .ref h)] := hl
  have kk0 : (0 : Int32).toInt = 0 := by decide
  have lk0 := hts (.fieldLink RX9 13 "AbbeyHours$Tape" "length" "I") (List.mem_cons_of_mem _ (List.mem_append_left _ (List.mem_of_getElem? (i := 0) rfl)))
  refine lv_aload_n hx hb dX9_length_0 rfl (lv_at hl 0 rfl) ?_
  refine va_get (D := D) (ci := 8) (v := .int v_length) (C := RX9) (T := TX9) (N := 2) hx hb hts in_t_length_X9 hown hK.1 hP 0 rfl rfl 1 (by decide) lk0 (fun _ h9 => h9) rfl dX9_length_1 ?_
  exact hret v_length _ _ (show v_length = v_length from rfl) rfl dX9_length_4

theorem in_t_room_X9 : ∀ w ∈ wsX90, w ∈ wsX9_hasRoomForFeed := tl_X9_hasRoomForFeed_X9
set_option maxHeartbeats 8000000 in
set_option maxRecDepth 100000 in
theorem t_room {l : Launch} {D : va_G} {cI cZ cB : ClassId} {h a_bytes : Nat} {v_length : Int32} (hv_length0 : 0 ≤ v_length.toInt) (hv_length1 : v_length.toInt ≤ 600) : Met l yX9_hasRoomForFeed wsX9_hasRoomForFeed ({ frames := 0, cells := 0, slots := 0, locals := 0 }) (RO D cI cZ cB [.ref h] [(h, .inr (8, [.ref a_bytes, .int v_length]))]) (vp_Si (fun r : Int32 => (r.toInt = 1 ∧ v_length.toInt ≤ 580) ∨ (r.toInt = 0 ∧ 580 < v_length.toInt))) 0 0 (fun _ => False) := by
  refine ro_ret (cc := cX9_hasRoomForFeed) (maxL := 1) (ty := .boolean) (own := RX9) (by decide) rfl rfl (Nat.le_of_ble_eq_true rfl) ?_
  intro p e s m args below meth c Q S hret hP hK ls hl
  obtain ⟨hx, hb, hml, hown, hts⟩ := id S
  have hl : lv_has ls 1 [(0, .ref h)] := hl
  have kk0 : (0 : Int32).toInt = 0 := by decide
  have kk1 : (1 : Int32).toInt = 1 := by decide
  have kk20 : (20 : Int32).toInt = 20 := by decide
  have kk600 : (600 : Int32).toInt = 600 := by decide
  have lk0 := hts (.fieldLink RX9 13 "AbbeyHours$Tape" "length" "I") (List.mem_cons_of_mem _ (List.mem_append_left _ (List.mem_of_getElem? (i := 0) rfl)))
  refine lv_aload_n hx hb dX9_hasRoomForFeed_0 rfl (lv_at hl 0 rfl) ?_
  refine va_get (D := D) (ci := 8) (v := .int v_length) (C := RX9) (T := TX9) (N := 2) hx hb hts in_t_room_X9 hown hK.1 hP 0 rfl rfl 1 (by decide) lk0 (fun _ h9 => h9) rfl dX9_hasRoomForFeed_1 ?_
  refine lv_bipush (v := 20) hx hb dX9_hasRoomForFeed_4 (by decide) ?_
  refine lv_iadd hx hb dX9_hasRoomForFeed_6 ?_
  refine lv_topi (fun x_1 ex_1 => ?_)
  first | have tx_1 := t_add ex_1 (by omega) (by omega) | skip
  refine lv_sipush (v := 600) hx hb dX9_hasRoomForFeed_7 (by decide) ?_
  refine lv_icmp_gt (tgt := 17) hx hb dX9_hasRoomForFeed_10 (by decide) (fun c_2 => ?_) (fun c_2 => ?_)
  · have tc_2 := t_lt c_2
    refine lv_iconst (v := 0) hx hb dX9_hasRoomForFeed_17 (by decide) ?_
    exact hret 0 _ _ (show ((0 : Int32).toInt = 1 ∧ v_length.toInt ≤ 580) ∨ ((0 : Int32).toInt = 0 ∧ 580 < v_length.toInt) from by omega) rfl dX9_hasRoomForFeed_18
  · have tc_2 := t_nlt c_2
    refine lv_iconst (v := 1) hx hb dX9_hasRoomForFeed_13 (by decide) ?_
    refine lv_goto (tgt := 18) hx hb dX9_hasRoomForFeed_14 (by decide) ?_
    exact hret 1 _ _ (show ((1 : Int32).toInt = 1 ∧ v_length.toInt ≤ 580) ∨ ((1 : Int32).toInt = 0 ∧ 580 < v_length.toInt) from by omega) rfl dX9_hasRoomForFeed_18

theorem in_t_byteAt_X9 : ∀ w ∈ wsX90, w ∈ wsX9_byteAt := tl_X9_byteAt_X9
set_option maxHeartbeats 8000000 in
set_option maxRecDepth 100000 in
theorem t_byteAt {l : Launch} {D : va_G} {cI cZ cB : ClassId} {h a_bytes : Nat} {v_length : Int32} {f_bytes : Nat → Int32} {i : Int32} (hv_length0 : 0 ≤ v_length.toInt) (hv_length1 : v_length.toInt ≤ 600) : Met l yX9_byteAt wsX9_byteAt ({ frames := 0, cells := 0, slots := 0, locals := 0 }) (RO D cI cZ cB [.ref h, .int i] [(h, .inr (8, [.ref a_bytes, .int v_length])), (a_bytes, .inl (cB, 600, .inl f_bytes))]) (vp_Si (fun r : Int32 => True)) 0 0 (fun _ => False) := by
  refine ro_ret (cc := cX9_byteAt) (maxL := 2) (ty := .int) (own := RX9) (by decide) rfl rfl (Nat.le_of_ble_eq_true rfl) ?_
  intro p e s m args below meth c Q S hret hP hK ls hl
  obtain ⟨hx, hb, hml, hown, hts⟩ := id S
  have hl : lv_has ls 2 [(0, .ref h), (1, .int i)] := hl
  have kk0 : (0 : Int32).toInt = 0 := by decide
  have lk0 := hts (.fieldLink RX9 13 "AbbeyHours$Tape" "length" "I") (List.mem_cons_of_mem _ (List.mem_append_left _ (List.mem_of_getElem? (i := 0) rfl)))
  have lk1 := hts (.fieldLink RX9 9 "AbbeyHours$Tape" "bytes" "[B") (List.mem_cons_of_mem _ (List.mem_append_left _ (List.mem_of_getElem? (i := 1) rfl)))
  refine lv_iload_n hx hb dX9_byteAt_0 rfl (lv_at hl 1 rfl) ?_
  refine lv_if_lt (tgt := 21) hx hb dX9_byteAt_1 (by decide) (fun c_1 => ?_) (fun c_1 => ?_)
  · have tc_1 := t_lt c_1
    refine lv_iconst (v := 0) hx hb dX9_byteAt_21 (by decide) ?_
    exact hret 0 _ _ (show True from trivial) rfl dX9_byteAt_22
  · have tc_1 := t_nlt c_1
    refine lv_iload_n hx hb dX9_byteAt_4 rfl (lv_at hl 1 rfl) ?_
    refine lv_aload_n hx hb dX9_byteAt_5 rfl (lv_at hl 0 rfl) ?_
    refine va_get (D := D) (ci := 8) (v := .int v_length) (C := RX9) (T := TX9) (N := 2) hx hb hts in_t_byteAt_X9 hown hK.1 hP 0 rfl rfl 1 (by decide) lk0 (fun _ h9 => h9) rfl dX9_byteAt_6 ?_
    refine lv_icmp_ge (tgt := 21) hx hb dX9_byteAt_9 (by decide) (fun c_2 => ?_) (fun c_2 => ?_)
    · have tc_2 := t_le c_2
      refine lv_iconst (v := 0) hx hb dX9_byteAt_21 (by decide) ?_
      exact hret 0 _ _ (show True from trivial) rfl dX9_byteAt_22
    · have tc_2 := t_nle c_2
      refine lv_aload_n hx hb dX9_byteAt_12 rfl (lv_at hl 0 rfl) ?_
      refine va_get (D := D) (ci := 8) (v := .ref a_bytes) (C := RX9) (T := TX9) (N := 2) hx hb hts in_t_byteAt_X9 hown hK.1 hP 0 rfl rfl 0 (by decide) lk1 (fun _ h9 => h9) rfl dX9_byteAt_13 ?_
      refine lv_iload_n hx hb dX9_byteAt_16 rfl (lv_at hl 1 rfl) ?_
      refine va_bald hx hb hK.1 hP 1 2 rfl rfl (t_in (by omega) (by omega)) dX9_byteAt_17 ?_
      refine lv_topi (fun y_3 ey_3 => ?_)
      refine lv_goto (tgt := 22) hx hb dX9_byteAt_18 (by decide) ?_
      exact hret y_3 _ _ (show True from trivial) rfl dX9_byteAt_22

theorem in_t_wipe_X9 : ∀ w ∈ wsX90, w ∈ wsX9_wipe := tl_X9_wipe_X9
set_option maxHeartbeats 8000000 in
set_option maxRecDepth 100000 in
theorem t_wipe {l : Launch} {D : va_G} {cI cZ cB : ClassId} {sz : Nat} {h a_bytes : Nat} {v_length : Int32}  : Met l yX9_wipe wsX9_wipe ({ frames := 0, cells := 0, slots := 0, locals := 0 }) (RW D cI cZ cB [.ref h] sz [(h, .inr (8, [.ref a_bytes, .int v_length]))]) (va_Qv (fun u : Int32 => u = 0) (BW D [(h, .inr (8, [.ref a_bytes, .int v_length]))] sz (fun u : Int32 => [(h, .inr (8, [.ref a_bytes, .int u]))])) (va_A [(h, .inr (8, [.ref a_bytes, .int v_length]))] sz)) 0 0 (va_A [(h, .inr (8, [.ref a_bytes, .int v_length]))] sz) := by
  refine rw_retv (cc := cX9_wipe) (maxL := 1) (own := RX9) (by decide) rfl rfl (Nat.le_of_ble_eq_true rfl) ?_
  intro p e s m args below meth c Q A S hin hret hP hK hD hA hS ls hl
  obtain ⟨hx, hb, hml, hown, hts⟩ := id S
  have hl : lv_has ls 1 [(0, .ref h)] := hl
  have kk0 : (0 : Int32).toInt = 0 := by decide
  have lk0 := hts (.fieldLink RX9 13 "AbbeyHours$Tape" "length" "I") (List.mem_cons_of_mem _ (List.mem_append_left _ (List.mem_of_getElem? (i := 0) rfl)))
  refine lv_aload_n hx hb dX9_wipe_0 rfl (lv_at hl 0 rfl) ?_
  refine lv_iconst (v := 0) hx hb dX9_wipe_1 (by decide) ?_
  refine va_put (D := D) (ci := 8) (v := .int 0) (ty := .int) (C := RX9) (T := TX9) (N := 2) hx hb hts in_t_wipe_X9 tyX9 tyX9_ok nmX9 hown hK.1 hP hD hS 0 rfl rfl 1 (by decide) lk0 (fun _ h9 => h9) rfl (by decide +kernel) rfl rfl (Nat.le_of_ble_eq_true rfl) dX9_wipe_2 (fun H locs hP hD hS => ?_)
  have hP : va_P D vwCl [(h, .inr (8, [.ref a_bytes, .int 0]))] H := hP
  have hD := asD hP hD
  exact hret 0 _ _ _ _ (show (0 : Int32) = 0 from rfl) (hP.sub [0] rfl) (hD.sub [0] (by decide +kernel) rfl) hS dX9_wipe_5

theorem in_t_put_X9 : ∀ w ∈ wsX90, w ∈ wsX9_put := tl_X9_put_X9
set_option maxHeartbeats 8000000 in
set_option maxRecDepth 100000 in
theorem t_put {l : Launch} {D : va_G} {cI cZ cB : ClassId} {sz : Nat} {h a_bytes : Nat} {v_length : Int32} {f_bytes : Nat → Int32} {x : Int32} (hv_length0 : 0 ≤ v_length.toInt) (hv_length1 : v_length.toInt ≤ 600) : Met l yX9_put wsX9_put ({ frames := 0, cells := 0, slots := 0, locals := 0 }) (RW D cI cZ cB [.ref h, .int x] sz [(h, .inr (8, [.ref a_bytes, .int v_length])), (a_bytes, .inl (cB, 600, .inl f_bytes))]) (va_Qv (fun u : Int32 × (Nat → Int32) => (v_length.toInt ≤ 596 → u.1.toInt = v_length.toInt + 4) ∧ 0 ≤ u.1.toInt ∧ u.1.toInt ≤ 600) (BW D [(h, .inr (8, [.ref a_bytes, .int v_length])), (a_bytes, .inl (cB, 600, .inl f_bytes))] sz (fun u : Int32 × (Nat → Int32) => [(h, .inr (8, [.ref a_bytes, .int u.1])), (a_bytes, .inl (cB, 600, .inl u.2))])) (va_A [(h, .inr (8, [.ref a_bytes, .int v_length])), (a_bytes, .inl (cB, 600, .inl f_bytes))] sz)) 0 0 (va_A [(h, .inr (8, [.ref a_bytes, .int v_length])), (a_bytes, .inl (cB, 600, .inl f_bytes))] sz) := by
  refine rw_retv (cc := cX9_put) (maxL := 3) (own := RX9) (by decide) rfl rfl (Nat.le_of_ble_eq_true rfl) ?_
  intro p e s m args below meth c Q A S hin hret hP hK hD hA hS ls hl
  obtain ⟨hx, hb, hml, hown, hts⟩ := id S
  have hl : lv_has ls 3 [(0, .ref h), (1, .int x)] := hl
  have kkm8 : (-8 : Int32).toInt = -8 := by decide
  have kk0 : (0 : Int32).toInt = 0 := by decide
  have kk1 : (1 : Int32).toInt = 1 := by decide
  have kk24 : (24 : Int32).toInt = 24 := by decide
  have kk600 : (600 : Int32).toInt = 600 := by decide
  have lk0 := hts (.fieldLink RX9 13 "AbbeyHours$Tape" "length" "I") (List.mem_cons_of_mem _ (List.mem_append_left _ (List.mem_of_getElem? (i := 0) rfl)))
  have lk1 := hts (.fieldLink RX9 9 "AbbeyHours$Tape" "bytes" "[B") (List.mem_cons_of_mem _ (List.mem_append_left _ (List.mem_of_getElem? (i := 1) rfl)))
  refine lv_bipush (v := 24) hx hb dX9_put_0 (by decide) ?_
  refine lv_istore_n (lv' := [(2, .int 24), (0, .ref h), (1, .int x)]) hx hb dX9_put_2 rfl hl (by decide) rfl (fun ls hl => ?_)
  have loop3 : ∀ (fuel : Nat) (i : Int32) (w : Int32) (fb : Nat → Int32), i.toInt + 8 < (fuel : Int) → (-8 ≤ i.toInt) → (i.toInt ≤ 24) → ((24 - i.toInt) % 8 = 0) → (0 ≤ w.toInt) → (w.toInt ≤ 600) → (v_length.toInt ≤ 596 → 8 * w.toInt = 8 * v_length.toInt + (24 - i.toInt)) → ∀ (H : Heap) (locs : List Loc), va_P D vwCl [(h, .inr (8, [.ref a_bytes, .int w])), (a_bytes, .inl (cB, 600, .inl fb))] H → va_D A [(h, .inr (8, [.ref a_bytes, .int w])), (a_bytes, .inl (cB, 600, .inl fb))] → va_S A s.heap H locs → ∀ ls : Array Slot, lv_has ls 3 [(2, .int i), (0, .ref h), (1, .int x)] → W p l e ({ frames := 0, cells := 0, slots := 0, locals := 0 } : Room) s m args below meth c H locs 0 0 Q (F0 m 3 ls []) := by
    intro fuel
    induction fuel with
    | zero =>
      intro i w fb hmu hi0 hi1 hi8 hw0 hw1 hw2 H locs hP hD hS ls hl
      exfalso; omega
    | succ fuel ih3 =>
      intro i w fb hmu hi0 hi1 hi8 hw0 hw1 hw2 H locs hP hD hS ls hl
      refine lv_iload_n hx hb dX9_put_3 rfl (lv_at hl 0 rfl) ?_
      refine lv_if_lt (tgt := 46) hx hb dX9_put_4 (by decide) (fun c_1 => ?_) (fun c_1 => ?_)
      · have tc_1 := t_lt c_1
        exact hret (w, fb) _ _ _ _ (show (v_length.toInt ≤ 596 → w.toInt = v_length.toInt + 4) ∧ 0 ≤ w.toInt ∧ w.toInt ≤ 600 from by omega) (hP.sub [0, 1] rfl) (hD.sub [0, 1] (by decide +kernel) rfl) hS dX9_put_46
      · have tc_1 := t_nlt c_1
        refine lv_aload_n hx hb dX9_put_7 rfl (lv_at hl 1 rfl) ?_
        refine va_get (D := D) (ci := 8) (v := .int w) (C := RX9) (T := TX9) (N := 2) hx hb hts in_t_put_X9 hown hK.1 hP 0 rfl rfl 1 (by decide) lk0 (fun _ h9 => h9) rfl dX9_put_8 ?_
        refine lv_sipush (v := 600) hx hb dX9_put_11 (by decide) ?_
        refine lv_icmp_ge (tgt := 40) hx hb dX9_put_14 (by decide) (fun c_2 => ?_) (fun c_2 => ?_)
        · have tc_2 := t_le c_2
          obtain ⟨x_3, ex_3⟩ : ∃ y : Int32, y = i + (-8) := ⟨_, rfl⟩
          refine lv_iinc (v := x_3) (lv' := [(2, .int x_3), (0, .ref h), (1, .int x)]) hx hb dX9_put_40 hl (k := 0) rfl (by rw [ex_3]; rfl) (by decide) rfl (fun ls hl => ?_)
          first | have tx_3 := t_add ex_3 (by omega) (by omega) | skip
          refine lv_goto (tgt := 3) hx hb dX9_put_43 (by decide) ?_
          exact ih3 x_3 w fb (by omega) (by omega) (by omega) (by omega) (by omega) (by omega) (by omega) _ _ hP hD hS ls (lv_sub hl [0, 1, 2] rfl)
        · have tc_2 := t_nle c_2
          refine lv_aload_n hx hb dX9_put_17 rfl (lv_at hl 1 rfl) ?_
          refine va_get (D := D) (ci := 8) (v := .ref a_bytes) (C := RX9) (T := TX9) (N := 2) hx hb hts in_t_put_X9 hown hK.1 hP 0 rfl rfl 0 (by decide) lk1 (fun _ h9 => h9) rfl dX9_put_18 ?_
          refine lv_aload_n hx hb dX9_put_21 rfl (lv_at hl 1 rfl) ?_
          refine va_get (D := D) (ci := 8) (v := .int w) (C := RX9) (T := TX9) (N := 2) hx hb hts in_t_put_X9 hown hK.1 hP 0 rfl rfl 1 (by decide) lk0 (fun _ h9 => h9) rfl dX9_put_22 ?_
          refine lv_iload_n hx hb dX9_put_25 rfl (lv_at hl 2 rfl) ?_
          refine lv_iload_n hx hb dX9_put_26 rfl (lv_at hl 0 rfl) ?_
          refine lv_ishr hx hb dX9_put_27 ?_
          refine lv_topi (fun x_4 ex_4 => ?_)
          refine lv_i2b hx hb dX9_put_28 rfl ?_
          refine lv_topi (fun x_5 ex_5 => ?_)
          refine va_bast hx hb hK.1 hP hD hS 1 2 rfl rfl (t_in (by omega) (by omega)) dX9_put_29 (fun H locs hP hD hS => ?_)
          obtain ⟨g_6, eg_6⟩ : ∃ z : Nat → Int32, z = upd fb ((w : Int32).toNatClampNeg) (vp_nar .byte x_5) := ⟨_, rfl⟩
          rw [← eg_6] at hP hD
          have hP : va_P D vwCl [(h, .inr (8, [.ref a_bytes, .int w])), (a_bytes, .inl (cB, 600, .inl g_6))] H := hP
          have hD := asD hP hD
          refine lv_aload_n hx hb dX9_put_30 rfl (lv_at hl 1 rfl) ?_
          refine lv_dup hx hb dX9_put_31 rfl ?_
          refine va_get (D := D) (ci := 8) (v := .int w) (C := RX9) (T := TX9) (N := 2) hx hb hts in_t_put_X9 hown hK.1 hP 0 rfl rfl 1 (by decide) lk0 (fun _ h9 => h9) rfl dX9_put_32 ?_
          refine lv_iconst (v := 1) hx hb dX9_put_35 (by decide) ?_
          refine lv_iadd hx hb dX9_put_36 ?_
          refine lv_topi (fun x_7 ex_7 => ?_)
          first | have tx_7 := t_add ex_7 (by omega) (by omega) | skip
          refine va_put (D := D) (ci := 8) (v := .int x_7) (ty := .int) (C := RX9) (T := TX9) (N := 2) hx hb hts in_t_put_X9 tyX9 tyX9_ok nmX9 hown hK.1 hP hD hS 0 rfl rfl 1 (by decide) lk0 (fun _ h9 => h9) rfl (by decide +kernel) rfl rfl (Nat.le_of_ble_eq_true rfl) dX9_put_37 (fun H locs hP hD hS => ?_)
          have hP : va_P D vwCl [(h, .inr (8, [.ref a_bytes, .int x_7])), (a_bytes, .inl (cB, 600, .inl g_6))] H := hP
          have hD := asD hP hD
          obtain ⟨x_8, ex_8⟩ : ∃ y : Int32, y = i + (-8) := ⟨_, rfl⟩
          refine lv_iinc (v := x_8) (lv' := [(2, .int x_8), (0, .ref h), (1, .int x)]) hx hb dX9_put_40 hl (k := 0) rfl (by rw [ex_8]; rfl) (by decide) rfl (fun ls hl => ?_)
          first | have tx_8 := t_add ex_8 (by omega) (by omega) | skip
          refine lv_goto (tgt := 3) hx hb dX9_put_43 (by decide) ?_
          exact ih3 x_8 x_7 g_6 (by omega) (by omega) (by omega) (by omega) (by omega) (by omega) (by omega) _ _ hP hD hS ls (lv_sub hl [0, 1, 2] rfl)
  exact loop3 (((24 : Int32).toInt + 8).toNat + 1) 24 v_length f_bytes (by omega) (by omega) (by omega) (by omega) (by omega) (by omega) (by omega) _ _ hP hD hS ls (lv_sub hl [0, 1, 2] rfl)

theorem in_k_size_X5 : ∀ w ∈ wsX50, w ∈ wsX5_size := tl_X5_size_X5
set_option maxHeartbeats 8000000 in
set_option maxRecDepth 100000 in
theorem k_size {l : Launch} {D : va_G} {cI cZ cB : ClassId} {h a_priests a_barred a_cameOn a_absent a_absentFrom a_absentTo : Nat} {v_size v_rows : Int32}  : Met l yX5_size wsX5_size ({ frames := 0, cells := 0, slots := 0, locals := 0 }) (RO D cI cZ cB [.ref h] [(h, .inr (5, [.ref a_priests, .ref a_barred, .ref a_cameOn, .ref a_absent, .ref a_absentFrom, .ref a_absentTo, .int v_size, .int v_rows]))]) (vp_Si (fun r : Int32 => r = v_size)) 0 0 (fun _ => False) := by
  refine ro_ret (cc := cX5_size) (maxL := 1) (ty := .int) (own := RX5) (by decide) rfl rfl (Nat.le_of_ble_eq_true rfl) ?_
  intro p e s m args below meth c Q S hret hP hK ls hl
  obtain ⟨hx, hb, hml, hown, hts⟩ := id S
  have hl : lv_has ls 1 [(0, .ref h)] := hl
  have kk0 : (0 : Int32).toInt = 0 := by decide
  have lk0 := hts (.fieldLink RX5 31 "AbbeyHours$Monks" "size" "I") (List.mem_cons_of_mem _ (List.mem_append_left _ (List.mem_of_getElem? (i := 0) rfl)))
  refine lv_aload_n hx hb dX5_size_0 rfl (lv_at hl 0 rfl) ?_
  refine va_get (D := D) (ci := 5) (v := .int v_size) (C := RX5) (T := TX5) (N := 8) hx hb hts in_k_size_X5 hown hK.1 hP 0 rfl rfl 6 (by decide) lk0 (fun _ h9 => h9) rfl dX5_size_1 ?_
  exact hret v_size _ _ (show v_size = v_size from rfl) rfl dX5_size_4

theorem in_k_has_X5 : ∀ w ∈ wsX50, w ∈ wsX5_has := tl_X5_has_X5
set_option maxHeartbeats 8000000 in
set_option maxRecDepth 100000 in
theorem k_has {l : Launch} {D : va_G} {cI cZ cB : ClassId} {h a_priests a_barred a_cameOn a_absent a_absentFrom a_absentTo : Nat} {v_size v_rows : Int32} {i : Int32}  : Met l yX5_has wsX5_has ({ frames := 0, cells := 0, slots := 0, locals := 0 }) (RO D cI cZ cB [.ref h, .int i] [(h, .inr (5, [.ref a_priests, .ref a_barred, .ref a_cameOn, .ref a_absent, .ref a_absentFrom, .ref a_absentTo, .int v_size, .int v_rows]))]) (vp_Si (fun r : Int32 => (r.toInt = 1 ∧ 0 ≤ i.toInt ∧ i.toInt < v_size.toInt) ∨ (r.toInt = 0 ∧ (i.toInt < 0 ∨ v_size.toInt ≤ i.toInt)))) 0 0 (fun _ => False) := by
  refine ro_ret (cc := cX5_has) (maxL := 2) (ty := .boolean) (own := RX5) (by decide) rfl rfl (Nat.le_of_ble_eq_true rfl) ?_
  intro p e s m args below meth c Q S hret hP hK ls hl
  obtain ⟨hx, hb, hml, hown, hts⟩ := id S
  have hl : lv_has ls 2 [(0, .ref h), (1, .int i)] := hl
  have kk0 : (0 : Int32).toInt = 0 := by decide
  have kk1 : (1 : Int32).toInt = 1 := by decide
  have lk0 := hts (.fieldLink RX5 31 "AbbeyHours$Monks" "size" "I") (List.mem_cons_of_mem _ (List.mem_append_left _ (List.mem_of_getElem? (i := 0) rfl)))
  refine lv_iload_n hx hb dX5_has_0 rfl (lv_at hl 1 rfl) ?_
  refine lv_if_lt (tgt := 16) hx hb dX5_has_1 (by decide) (fun c_1 => ?_) (fun c_1 => ?_)
  · have tc_1 := t_lt c_1
    refine lv_iconst (v := 0) hx hb dX5_has_16 (by decide) ?_
    exact hret 0 _ _ (show ((0 : Int32).toInt = 1 ∧ 0 ≤ i.toInt ∧ i.toInt < v_size.toInt) ∨ ((0 : Int32).toInt = 0 ∧ (i.toInt < 0 ∨ v_size.toInt ≤ i.toInt)) from by omega) rfl dX5_has_17
  · have tc_1 := t_nlt c_1
    refine lv_iload_n hx hb dX5_has_4 rfl (lv_at hl 1 rfl) ?_
    refine lv_aload_n hx hb dX5_has_5 rfl (lv_at hl 0 rfl) ?_
    refine va_get (D := D) (ci := 5) (v := .int v_size) (C := RX5) (T := TX5) (N := 8) hx hb hts in_k_has_X5 hown hK.1 hP 0 rfl rfl 6 (by decide) lk0 (fun _ h9 => h9) rfl dX5_has_6 ?_
    refine lv_icmp_ge (tgt := 16) hx hb dX5_has_9 (by decide) (fun c_2 => ?_) (fun c_2 => ?_)
    · have tc_2 := t_le c_2
      refine lv_iconst (v := 0) hx hb dX5_has_16 (by decide) ?_
      exact hret 0 _ _ (show ((0 : Int32).toInt = 1 ∧ 0 ≤ i.toInt ∧ i.toInt < v_size.toInt) ∨ ((0 : Int32).toInt = 0 ∧ (i.toInt < 0 ∨ v_size.toInt ≤ i.toInt)) from by omega) rfl dX5_has_17
    · have tc_2 := t_nle c_2
      refine lv_iconst (v := 1) hx hb dX5_has_12 (by decide) ?_
      refine lv_goto (tgt := 17) hx hb dX5_has_13 (by decide) ?_
      exact hret 1 _ _ (show ((1 : Int32).toInt = 1 ∧ 0 ≤ i.toInt ∧ i.toInt < v_size.toInt) ∨ ((1 : Int32).toInt = 0 ∧ (i.toInt < 0 ∨ v_size.toInt ≤ i.toInt)) from by omega) rfl dX5_has_17

theorem in_k_enter_X5 : ∀ w ∈ wsX50, w ∈ wsX5_enter := tl_X5_enter_X5
set_option maxHeartbeats 8000000 in
set_option maxRecDepth 100000 in
theorem k_enter {l : Launch} {D : va_G} {cI cZ cB : ClassId} {sz : Nat} {h a_priests a_barred a_cameOn a_absent a_absentFrom a_absentTo : Nat} {v_size v_rows : Int32} {f_priests f_barred f_cameOn : Nat → Int32} {px b t : Int32} (hv_size0 : 0 ≤ v_size.toInt) (hv_size1 : v_size.toInt ≤ 24) : Met l yX5_enter wsX5_enter ({ frames := 0, cells := 0, slots := 0, locals := 0 }) (RW D cI cZ cB [.ref h, .int px, .int b, .int t] sz [(h, .inr (5, [.ref a_priests, .ref a_barred, .ref a_cameOn, .ref a_absent, .ref a_absentFrom, .ref a_absentTo, .int v_size, .int v_rows])), (a_priests, .inl (cZ, 24, .inl f_priests)), (a_barred, .inl (cI, 24, .inl f_barred)), (a_cameOn, .inl (cI, 24, .inl f_cameOn))]) (va_Qi (fun (r : Int32) (u : Int32 × (Nat → Int32) × (Nat → Int32) × (Nat → Int32)) => (v_size.toInt = 24 ∧ r.toInt = -1 ∧ u.1 = v_size) ∨ (v_size.toInt < 24 ∧ r.toInt = v_size.toInt ∧ u.1.toInt = v_size.toInt + 1)) (BW D [(h, .inr (5, [.ref a_priests, .ref a_barred, .ref a_cameOn, .ref a_absent, .ref a_absentFrom, .ref a_absentTo, .int v_size, .int v_rows])), (a_priests, .inl (cZ, 24, .inl f_priests)), (a_barred, .inl (cI, 24, .inl f_barred)), (a_cameOn, .inl (cI, 24, .inl f_cameOn))] sz (fun u : Int32 × (Nat → Int32) × (Nat → Int32) × (Nat → Int32) => [(h, .inr (5, [.ref a_priests, .ref a_barred, .ref a_cameOn, .ref a_absent, .ref a_absentFrom, .ref a_absentTo, .int u.1, .int v_rows])), (a_priests, .inl (cZ, 24, .inl u.2.1)), (a_barred, .inl (cI, 24, .inl u.2.2.1)), (a_cameOn, .inl (cI, 24, .inl u.2.2.2))])) (va_A [(h, .inr (5, [.ref a_priests, .ref a_barred, .ref a_cameOn, .ref a_absent, .ref a_absentFrom, .ref a_absentTo, .int v_size, .int v_rows])), (a_priests, .inl (cZ, 24, .inl f_priests)), (a_barred, .inl (cI, 24, .inl f_barred)), (a_cameOn, .inl (cI, 24, .inl f_cameOn))] sz)) 0 0 (va_A [(h, .inr (5, [.ref a_priests, .ref a_barred, .ref a_cameOn, .ref a_absent, .ref a_absentFrom, .ref a_absentTo, .int v_size, .int v_rows])), (a_priests, .inl (cZ, 24, .inl f_priests)), (a_barred, .inl (cI, 24, .inl f_barred)), (a_cameOn, .inl (cI, 24, .inl f_cameOn))] sz) := by
  refine rw_ret (cc := cX5_enter) (maxL := 4) (ty := .int) (own := RX5) (by decide) rfl rfl (Nat.le_of_ble_eq_true rfl) ?_
  intro p e s m args below meth c Q A S hin hret hP hK hD hA hS ls hl
  obtain ⟨hx, hb, hml, hown, hts⟩ := id S
  have hl : lv_has ls 4 [(0, .ref h), (1, .int px), (2, .int b), (3, .int t)] := hl
  have kkm1 : (-1 : Int32).toInt = -1 := by decide
  have kk0 : (0 : Int32).toInt = 0 := by decide
  have kk1 : (1 : Int32).toInt = 1 := by decide
  have kk24 : (24 : Int32).toInt = 24 := by decide
  have lk0 := hts (.fieldLink RX5 31 "AbbeyHours$Monks" "size" "I") (List.mem_cons_of_mem _ (List.mem_append_left _ (List.mem_of_getElem? (i := 0) rfl)))
  have lk1 := hts (.fieldLink RX5 11 "AbbeyHours$Monks" "priests" "[Z") (List.mem_cons_of_mem _ (List.mem_append_left _ (List.mem_of_getElem? (i := 1) rfl)))
  have lk2 := hts (.fieldLink RX5 15 "AbbeyHours$Monks" "barred" "[I") (List.mem_cons_of_mem _ (List.mem_append_left _ (List.mem_of_getElem? (i := 2) rfl)))
  have lk3 := hts (.fieldLink RX5 19 "AbbeyHours$Monks" "cameOn" "[I") (List.mem_cons_of_mem _ (List.mem_append_left _ (List.mem_of_getElem? (i := 3) rfl)))
  refine lv_aload_n hx hb dX5_enter_0 rfl (lv_at hl 0 rfl) ?_
  refine va_get (D := D) (ci := 5) (v := .int v_size) (C := RX5) (T := TX5) (N := 8) hx hb hts in_k_enter_X5 hown hK.1 hP 0 rfl rfl 6 (by decide) lk0 (fun _ h9 => h9) rfl dX5_enter_1 ?_
  refine lv_bipush (v := 24) hx hb dX5_enter_4 (by decide) ?_
  refine lv_icmp_lt (tgt := 11) hx hb dX5_enter_6 (by decide) (fun c_1 => ?_) (fun c_1 => ?_)
  · have tc_1 := t_lt c_1
    refine lv_aload_n hx hb dX5_enter_11 rfl (lv_at hl 0 rfl) ?_
    refine va_get (D := D) (ci := 5) (v := .ref a_priests) (C := RX5) (T := TX5) (N := 8) hx hb hts in_k_enter_X5 hown hK.1 hP 0 rfl rfl 0 (by decide) lk1 (fun _ h9 => h9) rfl dX5_enter_12 ?_
    refine lv_aload_n hx hb dX5_enter_15 rfl (lv_at hl 0 rfl) ?_
    refine va_get (D := D) (ci := 5) (v := .int v_size) (C := RX5) (T := TX5) (N := 8) hx hb hts in_k_enter_X5 hown hK.1 hP 0 rfl rfl 6 (by decide) lk0 (fun _ h9 => h9) rfl dX5_enter_16 ?_
    refine lv_iload_n hx hb dX5_enter_19 rfl (lv_at hl 1 rfl) ?_
    refine va_zast hx hb hK.1 hP hD hS 1 1 rfl rfl (t_in (by omega) (by omega)) dX5_enter_20 (fun H locs hP hD hS => ?_)
    obtain ⟨g_2, eg_2⟩ : ∃ z : Nat → Int32, z = upd f_priests ((v_size : Int32).toNatClampNeg) (vp_nar .boolean px) := ⟨_, rfl⟩
    rw [← eg_2] at hP hD
    have hP : va_P D vwCl [(h, .inr (5, [.ref a_priests, .ref a_barred, .ref a_cameOn, .ref a_absent, .ref a_absentFrom, .ref a_absentTo, .int v_size, .int v_rows])), (a_priests, .inl (cZ, 24, .inl g_2)), (a_barred, .inl (cI, 24, .inl f_barred)), (a_cameOn, .inl (cI, 24, .inl f_cameOn))] H := hP
    have hD := asD hP hD
    refine lv_aload_n hx hb dX5_enter_21 rfl (lv_at hl 0 rfl) ?_
    refine va_get (D := D) (ci := 5) (v := .ref a_barred) (C := RX5) (T := TX5) (N := 8) hx hb hts in_k_enter_X5 hown hK.1 hP 0 rfl rfl 1 (by decide) lk2 (fun _ h9 => h9) rfl dX5_enter_22 ?_
    refine lv_aload_n hx hb dX5_enter_25 rfl (lv_at hl 0 rfl) ?_
    refine va_get (D := D) (ci := 5) (v := .int v_size) (C := RX5) (T := TX5) (N := 8) hx hb hts in_k_enter_X5 hown hK.1 hP 0 rfl rfl 6 (by decide) lk0 (fun _ h9 => h9) rfl dX5_enter_26 ?_
    refine lv_iload_n hx hb dX5_enter_29 rfl (lv_at hl 2 rfl) ?_
    refine va_iast hx hb hK.1 hP hD hS 2 0 rfl rfl (t_in (by omega) (by omega)) dX5_enter_30 (fun H locs hP hD hS => ?_)
    obtain ⟨g_3, eg_3⟩ : ∃ z : Nat → Int32, z = upd f_barred ((v_size : Int32).toNatClampNeg) b := ⟨_, rfl⟩
    rw [← eg_3] at hP hD
    have hP : va_P D vwCl [(h, .inr (5, [.ref a_priests, .ref a_barred, .ref a_cameOn, .ref a_absent, .ref a_absentFrom, .ref a_absentTo, .int v_size, .int v_rows])), (a_priests, .inl (cZ, 24, .inl g_2)), (a_barred, .inl (cI, 24, .inl g_3)), (a_cameOn, .inl (cI, 24, .inl f_cameOn))] H := hP
    have hD := asD hP hD
    refine lv_aload_n hx hb dX5_enter_31 rfl (lv_at hl 0 rfl) ?_
    refine va_get (D := D) (ci := 5) (v := .ref a_cameOn) (C := RX5) (T := TX5) (N := 8) hx hb hts in_k_enter_X5 hown hK.1 hP 0 rfl rfl 2 (by decide) lk3 (fun _ h9 => h9) rfl dX5_enter_32 ?_
    refine lv_aload_n hx hb dX5_enter_35 rfl (lv_at hl 0 rfl) ?_
    refine va_get (D := D) (ci := 5) (v := .int v_size) (C := RX5) (T := TX5) (N := 8) hx hb hts in_k_enter_X5 hown hK.1 hP 0 rfl rfl 6 (by decide) lk0 (fun _ h9 => h9) rfl dX5_enter_36 ?_
    refine lv_iload_n hx hb dX5_enter_39 rfl (lv_at hl 3 rfl) ?_
    refine va_iast hx hb hK.1 hP hD hS 3 0 rfl rfl (t_in (by omega) (by omega)) dX5_enter_40 (fun H locs hP hD hS => ?_)
    obtain ⟨g_4, eg_4⟩ : ∃ z : Nat → Int32, z = upd f_cameOn ((v_size : Int32).toNatClampNeg) t := ⟨_, rfl⟩
    rw [← eg_4] at hP hD
    have hP : va_P D vwCl [(h, .inr (5, [.ref a_priests, .ref a_barred, .ref a_cameOn, .ref a_absent, .ref a_absentFrom, .ref a_absentTo, .int v_size, .int v_rows])), (a_priests, .inl (cZ, 24, .inl g_2)), (a_barred, .inl (cI, 24, .inl g_3)), (a_cameOn, .inl (cI, 24, .inl g_4))] H := hP
    have hD := asD hP hD
    refine lv_aload_n hx hb dX5_enter_41 rfl (lv_at hl 0 rfl) ?_
    refine lv_dup hx hb dX5_enter_42 rfl ?_
    refine va_get (D := D) (ci := 5) (v := .int v_size) (C := RX5) (T := TX5) (N := 8) hx hb hts in_k_enter_X5 hown hK.1 hP 0 rfl rfl 6 (by decide) lk0 (fun _ h9 => h9) rfl dX5_enter_43 ?_
    refine lv_iconst (v := 1) hx hb dX5_enter_46 (by decide) ?_
    refine lv_iadd hx hb dX5_enter_47 ?_
    refine lv_topi (fun x_5 ex_5 => ?_)
    first | have tx_5 := t_add ex_5 (by omega) (by omega) | skip
    refine va_put (D := D) (ci := 5) (v := .int x_5) (ty := .int) (C := RX5) (T := TX5) (N := 8) hx hb hts in_k_enter_X5 tyX5 tyX5_ok nmX5 hown hK.1 hP hD hS 0 rfl rfl 6 (by decide) lk0 (fun _ h9 => h9) rfl (by decide +kernel) rfl rfl (Nat.le_of_ble_eq_true rfl) dX5_enter_48 (fun H locs hP hD hS => ?_)
    have hP : va_P D vwCl [(h, .inr (5, [.ref a_priests, .ref a_barred, .ref a_cameOn, .ref a_absent, .ref a_absentFrom, .ref a_absentTo, .int x_5, .int v_rows])), (a_priests, .inl (cZ, 24, .inl g_2)), (a_barred, .inl (cI, 24, .inl g_3)), (a_cameOn, .inl (cI, 24, .inl g_4))] H := hP
    have hD := asD hP hD
    refine lv_aload_n hx hb dX5_enter_51 rfl (lv_at hl 0 rfl) ?_
    refine va_get (D := D) (ci := 5) (v := .int x_5) (C := RX5) (T := TX5) (N := 8) hx hb hts in_k_enter_X5 hown hK.1 hP 0 rfl rfl 6 (by decide) lk0 (fun _ h9 => h9) rfl dX5_enter_52 ?_
    refine lv_iconst (v := 1) hx hb dX5_enter_55 (by decide) ?_
    refine lv_isub hx hb dX5_enter_56 ?_
    refine lv_topi (fun x_6 ex_6 => ?_)
    first | have tx_6 := t_sub ex_6 (by omega) (by omega) | skip
    exact hret x_6 (x_5, g_2, g_3, g_4) _ _ _ _ (show (v_size.toInt = 24 ∧ x_6.toInt = -1 ∧ x_5 = v_size) ∨ (v_size.toInt < 24 ∧ x_6.toInt = v_size.toInt ∧ x_5.toInt = v_size.toInt + 1) from by first | exact Or.inl ⟨by omega, by omega, rfl⟩ | exact Or.inr ⟨by omega, by omega, by omega⟩) rfl (hP.sub [0, 1, 2, 3] rfl) (hD.sub [0, 1, 2, 3] (by decide +kernel) rfl) hS dX5_enter_57
  · have tc_1 := t_nlt c_1
    refine lv_iconst (v := (-1)) hx hb dX5_enter_9 (by decide) ?_
    exact hret (-1) (v_size, f_priests, f_barred, f_cameOn) _ _ _ _ (show (v_size.toInt = 24 ∧ (-1 : Int32).toInt = -1 ∧ v_size = v_size) ∨ (v_size.toInt < 24 ∧ (-1 : Int32).toInt = v_size.toInt ∧ v_size.toInt = v_size.toInt + 1) from by first | exact Or.inl ⟨by omega, by omega, rfl⟩ | exact Or.inr ⟨by omega, by omega, by omega⟩) rfl (hP.sub [0, 1, 2, 3] rfl) (hD.sub [0, 1, 2, 3] (by decide +kernel) rfl) hS dX5_enter_10

theorem in_k_tell_X5 : ∀ w ∈ wsX50, w ∈ wsX5_tellAbsence := tl_X5_tellAbsence_X5
set_option maxHeartbeats 8000000 in
set_option maxRecDepth 100000 in
theorem k_tell {l : Launch} {D : va_G} {cI cZ cB : ClassId} {sz : Nat} {h a_priests a_barred a_cameOn a_absent a_absentFrom a_absentTo : Nat} {v_size v_rows : Int32} {f_absent f_absentFrom f_absentTo : Nat → Int32} {px b t : Int32} (hv_rows0 : 0 ≤ v_rows.toInt) (hv_rows1 : v_rows.toInt ≤ 60) : Met l yX5_tellAbsence wsX5_tellAbsence ({ frames := 0, cells := 0, slots := 0, locals := 0 }) (RW D cI cZ cB [.ref h, .int px, .int b, .int t] sz [(h, .inr (5, [.ref a_priests, .ref a_barred, .ref a_cameOn, .ref a_absent, .ref a_absentFrom, .ref a_absentTo, .int v_size, .int v_rows])), (a_absent, .inl (cI, 60, .inl f_absent)), (a_absentFrom, .inl (cI, 60, .inl f_absentFrom)), (a_absentTo, .inl (cI, 60, .inl f_absentTo))]) (va_Qi (fun (r : Int32) (u : Int32 × (Nat → Int32) × (Nat → Int32) × (Nat → Int32)) => (v_rows.toInt = 60 ∧ r.toInt = -1 ∧ u.1 = v_rows) ∨ (v_rows.toInt < 60 ∧ r.toInt = v_rows.toInt + 1 ∧ u.1.toInt = v_rows.toInt + 1)) (BW D [(h, .inr (5, [.ref a_priests, .ref a_barred, .ref a_cameOn, .ref a_absent, .ref a_absentFrom, .ref a_absentTo, .int v_size, .int v_rows])), (a_absent, .inl (cI, 60, .inl f_absent)), (a_absentFrom, .inl (cI, 60, .inl f_absentFrom)), (a_absentTo, .inl (cI, 60, .inl f_absentTo))] sz (fun u : Int32 × (Nat → Int32) × (Nat → Int32) × (Nat → Int32) => [(h, .inr (5, [.ref a_priests, .ref a_barred, .ref a_cameOn, .ref a_absent, .ref a_absentFrom, .ref a_absentTo, .int v_size, .int u.1])), (a_absent, .inl (cI, 60, .inl u.2.1)), (a_absentFrom, .inl (cI, 60, .inl u.2.2.1)), (a_absentTo, .inl (cI, 60, .inl u.2.2.2))])) (va_A [(h, .inr (5, [.ref a_priests, .ref a_barred, .ref a_cameOn, .ref a_absent, .ref a_absentFrom, .ref a_absentTo, .int v_size, .int v_rows])), (a_absent, .inl (cI, 60, .inl f_absent)), (a_absentFrom, .inl (cI, 60, .inl f_absentFrom)), (a_absentTo, .inl (cI, 60, .inl f_absentTo))] sz)) 0 0 (va_A [(h, .inr (5, [.ref a_priests, .ref a_barred, .ref a_cameOn, .ref a_absent, .ref a_absentFrom, .ref a_absentTo, .int v_size, .int v_rows])), (a_absent, .inl (cI, 60, .inl f_absent)), (a_absentFrom, .inl (cI, 60, .inl f_absentFrom)), (a_absentTo, .inl (cI, 60, .inl f_absentTo))] sz) := by
  refine rw_ret (cc := cX5_tellAbsence) (maxL := 4) (ty := .int) (own := RX5) (by decide) rfl rfl (Nat.le_of_ble_eq_true rfl) ?_
  intro p e s m args below meth c Q A S hin hret hP hK hD hA hS ls hl
  obtain ⟨hx, hb, hml, hown, hts⟩ := id S
  have hl : lv_has ls 4 [(0, .ref h), (1, .int px), (2, .int b), (3, .int t)] := hl
  have kkm1 : (-1 : Int32).toInt = -1 := by decide
  have kk0 : (0 : Int32).toInt = 0 := by decide
  have kk1 : (1 : Int32).toInt = 1 := by decide
  have kk60 : (60 : Int32).toInt = 60 := by decide
  have lk0 := hts (.fieldLink RX5 35 "AbbeyHours$Monks" "rows" "I") (List.mem_cons_of_mem _ (List.mem_append_left _ (List.mem_of_getElem? (i := 0) rfl)))
  have lk1 := hts (.fieldLink RX5 22 "AbbeyHours$Monks" "absent" "[I") (List.mem_cons_of_mem _ (List.mem_append_left _ (List.mem_of_getElem? (i := 1) rfl)))
  have lk2 := hts (.fieldLink RX5 25 "AbbeyHours$Monks" "absentFrom" "[I") (List.mem_cons_of_mem _ (List.mem_append_left _ (List.mem_of_getElem? (i := 2) rfl)))
  have lk3 := hts (.fieldLink RX5 28 "AbbeyHours$Monks" "absentTo" "[I") (List.mem_cons_of_mem _ (List.mem_append_left _ (List.mem_of_getElem? (i := 3) rfl)))
  refine lv_aload_n hx hb dX5_tellAbsence_0 rfl (lv_at hl 0 rfl) ?_
  refine va_get (D := D) (ci := 5) (v := .int v_rows) (C := RX5) (T := TX5) (N := 8) hx hb hts in_k_tell_X5 hown hK.1 hP 0 rfl rfl 7 (by decide) lk0 (fun _ h9 => h9) rfl dX5_tellAbsence_1 ?_
  refine lv_bipush (v := 60) hx hb dX5_tellAbsence_4 (by decide) ?_
  refine lv_icmp_lt (tgt := 11) hx hb dX5_tellAbsence_6 (by decide) (fun c_1 => ?_) (fun c_1 => ?_)
  · have tc_1 := t_lt c_1
    refine lv_aload_n hx hb dX5_tellAbsence_11 rfl (lv_at hl 0 rfl) ?_
    refine va_get (D := D) (ci := 5) (v := .ref a_absent) (C := RX5) (T := TX5) (N := 8) hx hb hts in_k_tell_X5 hown hK.1 hP 0 rfl rfl 3 (by decide) lk1 (fun _ h9 => h9) rfl dX5_tellAbsence_12 ?_
    refine lv_aload_n hx hb dX5_tellAbsence_15 rfl (lv_at hl 0 rfl) ?_
    refine va_get (D := D) (ci := 5) (v := .int v_rows) (C := RX5) (T := TX5) (N := 8) hx hb hts in_k_tell_X5 hown hK.1 hP 0 rfl rfl 7 (by decide) lk0 (fun _ h9 => h9) rfl dX5_tellAbsence_16 ?_
    refine lv_iload_n hx hb dX5_tellAbsence_19 rfl (lv_at hl 1 rfl) ?_
    refine va_iast hx hb hK.1 hP hD hS 1 0 rfl rfl (t_in (by omega) (by omega)) dX5_tellAbsence_20 (fun H locs hP hD hS => ?_)
    obtain ⟨g_2, eg_2⟩ : ∃ z : Nat → Int32, z = upd f_absent ((v_rows : Int32).toNatClampNeg) px := ⟨_, rfl⟩
    rw [← eg_2] at hP hD
    have hP : va_P D vwCl [(h, .inr (5, [.ref a_priests, .ref a_barred, .ref a_cameOn, .ref a_absent, .ref a_absentFrom, .ref a_absentTo, .int v_size, .int v_rows])), (a_absent, .inl (cI, 60, .inl g_2)), (a_absentFrom, .inl (cI, 60, .inl f_absentFrom)), (a_absentTo, .inl (cI, 60, .inl f_absentTo))] H := hP
    have hD := asD hP hD
    refine lv_aload_n hx hb dX5_tellAbsence_21 rfl (lv_at hl 0 rfl) ?_
    refine va_get (D := D) (ci := 5) (v := .ref a_absentFrom) (C := RX5) (T := TX5) (N := 8) hx hb hts in_k_tell_X5 hown hK.1 hP 0 rfl rfl 4 (by decide) lk2 (fun _ h9 => h9) rfl dX5_tellAbsence_22 ?_
    refine lv_aload_n hx hb dX5_tellAbsence_25 rfl (lv_at hl 0 rfl) ?_
    refine va_get (D := D) (ci := 5) (v := .int v_rows) (C := RX5) (T := TX5) (N := 8) hx hb hts in_k_tell_X5 hown hK.1 hP 0 rfl rfl 7 (by decide) lk0 (fun _ h9 => h9) rfl dX5_tellAbsence_26 ?_
    refine lv_iload_n hx hb dX5_tellAbsence_29 rfl (lv_at hl 2 rfl) ?_
    refine va_iast hx hb hK.1 hP hD hS 2 0 rfl rfl (t_in (by omega) (by omega)) dX5_tellAbsence_30 (fun H locs hP hD hS => ?_)
    obtain ⟨g_3, eg_3⟩ : ∃ z : Nat → Int32, z = upd f_absentFrom ((v_rows : Int32).toNatClampNeg) b := ⟨_, rfl⟩
    rw [← eg_3] at hP hD
    have hP : va_P D vwCl [(h, .inr (5, [.ref a_priests, .ref a_barred, .ref a_cameOn, .ref a_absent, .ref a_absentFrom, .ref a_absentTo, .int v_size, .int v_rows])), (a_absent, .inl (cI, 60, .inl g_2)), (a_absentFrom, .inl (cI, 60, .inl g_3)), (a_absentTo, .inl (cI, 60, .inl f_absentTo))] H := hP
    have hD := asD hP hD
    refine lv_aload_n hx hb dX5_tellAbsence_31 rfl (lv_at hl 0 rfl) ?_
    refine va_get (D := D) (ci := 5) (v := .ref a_absentTo) (C := RX5) (T := TX5) (N := 8) hx hb hts in_k_tell_X5 hown hK.1 hP 0 rfl rfl 5 (by decide) lk3 (fun _ h9 => h9) rfl dX5_tellAbsence_32 ?_
    refine lv_aload_n hx hb dX5_tellAbsence_35 rfl (lv_at hl 0 rfl) ?_
    refine va_get (D := D) (ci := 5) (v := .int v_rows) (C := RX5) (T := TX5) (N := 8) hx hb hts in_k_tell_X5 hown hK.1 hP 0 rfl rfl 7 (by decide) lk0 (fun _ h9 => h9) rfl dX5_tellAbsence_36 ?_
    refine lv_iload_n hx hb dX5_tellAbsence_39 rfl (lv_at hl 3 rfl) ?_
    refine va_iast hx hb hK.1 hP hD hS 3 0 rfl rfl (t_in (by omega) (by omega)) dX5_tellAbsence_40 (fun H locs hP hD hS => ?_)
    obtain ⟨g_4, eg_4⟩ : ∃ z : Nat → Int32, z = upd f_absentTo ((v_rows : Int32).toNatClampNeg) t := ⟨_, rfl⟩
    rw [← eg_4] at hP hD
    have hP : va_P D vwCl [(h, .inr (5, [.ref a_priests, .ref a_barred, .ref a_cameOn, .ref a_absent, .ref a_absentFrom, .ref a_absentTo, .int v_size, .int v_rows])), (a_absent, .inl (cI, 60, .inl g_2)), (a_absentFrom, .inl (cI, 60, .inl g_3)), (a_absentTo, .inl (cI, 60, .inl g_4))] H := hP
    have hD := asD hP hD
    refine lv_aload_n hx hb dX5_tellAbsence_41 rfl (lv_at hl 0 rfl) ?_
    refine lv_dup hx hb dX5_tellAbsence_42 rfl ?_
    refine va_get (D := D) (ci := 5) (v := .int v_rows) (C := RX5) (T := TX5) (N := 8) hx hb hts in_k_tell_X5 hown hK.1 hP 0 rfl rfl 7 (by decide) lk0 (fun _ h9 => h9) rfl dX5_tellAbsence_43 ?_
    refine lv_iconst (v := 1) hx hb dX5_tellAbsence_46 (by decide) ?_
    refine lv_iadd hx hb dX5_tellAbsence_47 ?_
    refine lv_topi (fun x_5 ex_5 => ?_)
    first | have tx_5 := t_add ex_5 (by omega) (by omega) | skip
    refine va_put (D := D) (ci := 5) (v := .int x_5) (ty := .int) (C := RX5) (T := TX5) (N := 8) hx hb hts in_k_tell_X5 tyX5 tyX5_ok nmX5 hown hK.1 hP hD hS 0 rfl rfl 7 (by decide) lk0 (fun _ h9 => h9) rfl (by decide +kernel) rfl rfl (Nat.le_of_ble_eq_true rfl) dX5_tellAbsence_48 (fun H locs hP hD hS => ?_)
    have hP : va_P D vwCl [(h, .inr (5, [.ref a_priests, .ref a_barred, .ref a_cameOn, .ref a_absent, .ref a_absentFrom, .ref a_absentTo, .int v_size, .int x_5])), (a_absent, .inl (cI, 60, .inl g_2)), (a_absentFrom, .inl (cI, 60, .inl g_3)), (a_absentTo, .inl (cI, 60, .inl g_4))] H := hP
    have hD := asD hP hD
    refine lv_aload_n hx hb dX5_tellAbsence_51 rfl (lv_at hl 0 rfl) ?_
    refine va_get (D := D) (ci := 5) (v := .int x_5) (C := RX5) (T := TX5) (N := 8) hx hb hts in_k_tell_X5 hown hK.1 hP 0 rfl rfl 7 (by decide) lk0 (fun _ h9 => h9) rfl dX5_tellAbsence_52 ?_
    exact hret x_5 (x_5, g_2, g_3, g_4) _ _ _ _ (show (v_rows.toInt = 60 ∧ x_5.toInt = -1 ∧ x_5 = v_rows) ∨ (v_rows.toInt < 60 ∧ x_5.toInt = v_rows.toInt + 1 ∧ x_5.toInt = v_rows.toInt + 1) from by first | exact Or.inl ⟨by omega, by omega, rfl⟩ | exact Or.inr ⟨by omega, by omega, by omega⟩) rfl (hP.sub [0, 1, 2, 3] rfl) (hD.sub [0, 1, 2, 3] (by decide +kernel) rfl) hS dX5_tellAbsence_55
  · have tc_1 := t_nlt c_1
    refine lv_iconst (v := (-1)) hx hb dX5_tellAbsence_9 (by decide) ?_
    exact hret (-1) (v_rows, f_absent, f_absentFrom, f_absentTo) _ _ _ _ (show (v_rows.toInt = 60 ∧ (-1 : Int32).toInt = -1 ∧ v_rows = v_rows) ∨ (v_rows.toInt < 60 ∧ (-1 : Int32).toInt = v_rows.toInt + 1 ∧ v_rows.toInt = v_rows.toInt + 1) from by first | exact Or.inl ⟨by omega, by omega, rfl⟩ | exact Or.inr ⟨by omega, by omega, by omega⟩) rfl (hP.sub [0, 1, 2, 3] rfl) (hD.sub [0, 1, 2, 3] (by decide +kernel) rfl) hS dX5_tellAbsence_10

theorem in_k_isAble_X5 : ∀ w ∈ wsX50, w ∈ wsX5_isAble := tl_X5_isAble_X5
set_option maxHeartbeats 8000000 in
set_option maxRecDepth 100000 in
theorem k_isAble {l : Launch} {D : va_G} {cI cZ cB : ClassId} {h a_priests a_barred a_cameOn a_absent a_absentFrom a_absentTo : Nat} {v_size v_rows : Int32} {f_cameOn f_absent f_absentFrom f_absentTo : Nat → Int32} {i d : Int32} (hv_size0 : 0 ≤ v_size.toInt) (hv_size1 : v_size.toInt ≤ 24) (hv_rows0 : 0 ≤ v_rows.toInt) (hv_rows1 : v_rows.toInt ≤ 60) : Met l yX5_isAble wsX5_isAble ({ frames := 1, cells := 0, slots := 0, locals := 22 }) (RO D cI cZ cB [.ref h, .int i, .int d] [(h, .inr (5, [.ref a_priests, .ref a_barred, .ref a_cameOn, .ref a_absent, .ref a_absentFrom, .ref a_absentTo, .int v_size, .int v_rows])), (a_cameOn, .inl (cI, 24, .inl f_cameOn)), (a_absent, .inl (cI, 60, .inl f_absent)), (a_absentFrom, .inl (cI, 60, .inl f_absentFrom)), (a_absentTo, .inl (cI, 60, .inl f_absentTo))]) (vp_Si (fun r : Int32 => (r.toInt = 0 ∨ r.toInt = 1))) 0 0 (fun _ => False) := by
  refine ro_ret (cc := cX5_isAble) (maxL := 4) (ty := .boolean) (own := RX5) (by decide) rfl rfl (Nat.le_of_ble_eq_true rfl) ?_
  intro p e s m args below meth c Q S hret hP hK ls hl
  obtain ⟨hx, hb, hml, hown, hts⟩ := id S
  have hl : lv_has ls 4 [(0, .ref h), (1, .int i), (2, .int d)] := hl
  have kk0 : (0 : Int32).toInt = 0 := by decide
  have kk1 : (1 : Int32).toInt = 1 := by decide
  have lk0 := hts (.fieldLink RX5 19 "AbbeyHours$Monks" "cameOn" "[I") (List.mem_cons_of_mem _ (List.mem_append_left _ (List.mem_of_getElem? (i := 0) rfl)))
  have lk1 := hts (.fieldLink RX5 35 "AbbeyHours$Monks" "rows" "I") (List.mem_cons_of_mem _ (List.mem_append_left _ (List.mem_of_getElem? (i := 1) rfl)))
  have lk2 := hts (.fieldLink RX5 22 "AbbeyHours$Monks" "absent" "[I") (List.mem_cons_of_mem _ (List.mem_append_left _ (List.mem_of_getElem? (i := 2) rfl)))
  have lk3 := hts (.fieldLink RX5 25 "AbbeyHours$Monks" "absentFrom" "[I") (List.mem_cons_of_mem _ (List.mem_append_left _ (List.mem_of_getElem? (i := 3) rfl)))
  have lk4 := hts (.fieldLink RX5 28 "AbbeyHours$Monks" "absentTo" "[I") (List.mem_cons_of_mem _ (List.mem_append_left _ (List.mem_of_getElem? (i := 4) rfl)))
  have lk5 := hts (.initialized RX11) (List.mem_cons_of_mem _ (List.mem_append_left _ (List.mem_of_getElem? (i := 12) rfl)))
  have lk6 := hts (.static yX11_within) (List.mem_cons_of_mem _ (List.mem_append_left _ (List.mem_of_getElem? (i := 11) rfl)))
  refine lv_aload_n hx hb dX5_isAble_0 rfl (lv_at hl 0 rfl) ?_
  refine lv_iload_n hx hb dX5_isAble_1 rfl (lv_at hl 1 rfl) ?_
  have hPc := hP.sub (ws' := [(h, .inr (5, [.ref a_priests, .ref a_barred, .ref a_cameOn, .ref a_absent, .ref a_absentFrom, .ref a_absentTo, .int v_size, .int v_rows]))]) [0] rfl
  refine roV (As := [.int i]) (rest := []) S (k_has  ) (cwV 1 hts gX5_isAble_X5_has rfl rfl rfl ⟨rfl, hd_X5_has⟩ ⟨Nat.le_of_ble_eq_true rfl, Nat.le_of_ble_eq_true rfl⟩) hK hPc (va_recv hK.1 hPc (ci := 5) (q0 := 0) rfl rfl) rfl hl.1 rfl (Nat.le_of_ble_eq_true rfl) dX5_isAble_2 ⟨Nat.le_of_ble_eq_true rfl, Nat.le_of_ble_eq_true rfl⟩ (fun r_1 hw_1 => ?_)
  have hw_1 : (r_1.toInt = 1 ∧ 0 ≤ i.toInt ∧ i.toInt < v_size.toInt) ∨ (r_1.toInt = 0 ∧ (i.toInt < 0 ∨ v_size.toInt ≤ i.toInt)) := hw_1
  refine lv_if_eq (tgt := 18) hx hb dX5_isAble_5 (by decide) (fun c_2 => ?_) (fun c_2 => ?_)
  · have tc_2 := t_eq c_2
    refine lv_iconst (v := 0) hx hb dX5_isAble_18 (by decide) ?_
    exact hret 0 _ _ (show ((0 : Int32).toInt = 0 ∨ (0 : Int32).toInt = 1) from by omega) rfl dX5_isAble_19
  · have tc_2 := t_neq c_2
    refine lv_iload_n hx hb dX5_isAble_8 rfl (lv_at hl 2 rfl) ?_
    refine lv_aload_n hx hb dX5_isAble_9 rfl (lv_at hl 0 rfl) ?_
    refine va_get (D := D) (ci := 5) (v := .ref a_cameOn) (C := RX5) (T := TX5) (N := 8) hx hb hts in_k_isAble_X5 hown hK.1 hP 0 rfl rfl 2 (by decide) lk0 (fun _ h9 => h9) rfl dX5_isAble_10 ?_
    refine lv_iload_n hx hb dX5_isAble_13 rfl (lv_at hl 1 rfl) ?_
    refine va_iald hx hb hK.1 hP 1 0 rfl rfl (t_in (by omega) (by omega)) dX5_isAble_14 ?_
    refine lv_topi (fun y_3 ey_3 => ?_)
    refine lv_icmp_ge (tgt := 20) hx hb dX5_isAble_15 (by decide) (fun c_4 => ?_) (fun c_4 => ?_)
    · have tc_4 := t_le c_4
      refine lv_iconst (v := 0) hx hb dX5_isAble_20 (by decide) ?_
      refine lv_istore_n (lv' := [(3, .int 0), (0, .ref h), (1, .int i), (2, .int d)]) hx hb dX5_isAble_21 rfl hl (by decide) rfl (fun ls hl => ?_)
      have loop22 : ∀ (fuel : Nat) (j : Int32), v_rows.toInt - j.toInt < (fuel : Int) → (0 ≤ j.toInt) → (j.toInt ≤ v_rows.toInt) → ∀ ls : Array Slot, lv_has ls 4 [(3, .int j), (0, .ref h), (1, .int i), (2, .int d)] → W p l e ({ frames := 1, cells := 0, slots := 0, locals := 22 } : Room) s m args below meth c s.heap [] 0 0 Q (F0 m 22 ls []) := by
        intro fuel
        induction fuel with
        | zero =>
          intro j hmu hi0 hi1 ls hl
          exfalso; omega
        | succ fuel ih22 =>
          intro j hmu hi0 hi1 ls hl
          refine lv_iload_n hx hb dX5_isAble_22 rfl (lv_at hl 0 rfl) ?_
          refine lv_aload_n hx hb dX5_isAble_23 rfl (lv_at hl 1 rfl) ?_
          refine va_get (D := D) (ci := 5) (v := .int v_rows) (C := RX5) (T := TX5) (N := 8) hx hb hts in_k_isAble_X5 hown hK.1 hP 0 rfl rfl 7 (by decide) lk1 (fun _ h9 => h9) rfl dX5_isAble_24 ?_
          refine lv_icmp_ge (tgt := 67) hx hb dX5_isAble_27 (by decide) (fun c_5 => ?_) (fun c_5 => ?_)
          · have tc_5 := t_le c_5
            refine lv_iconst (v := 1) hx hb dX5_isAble_67 (by decide) ?_
            exact hret 1 _ _ (show ((1 : Int32).toInt = 0 ∨ (1 : Int32).toInt = 1) from by omega) rfl dX5_isAble_68
          · have tc_5 := t_nle c_5
            refine lv_aload_n hx hb dX5_isAble_30 rfl (lv_at hl 1 rfl) ?_
            refine va_get (D := D) (ci := 5) (v := .ref a_absent) (C := RX5) (T := TX5) (N := 8) hx hb hts in_k_isAble_X5 hown hK.1 hP 0 rfl rfl 3 (by decide) lk2 (fun _ h9 => h9) rfl dX5_isAble_31 ?_
            refine lv_iload_n hx hb dX5_isAble_34 rfl (lv_at hl 0 rfl) ?_
            refine va_iald hx hb hK.1 hP 2 0 rfl rfl (t_in (by omega) (by omega)) dX5_isAble_35 ?_
            refine lv_topi (fun y_6 ey_6 => ?_)
            refine lv_iload_n hx hb dX5_isAble_36 rfl (lv_at hl 2 rfl) ?_
            refine lv_icmp_ne (tgt := 61) hx hb dX5_isAble_37 (by decide) (fun c_7 => ?_) (fun c_7 => ?_)
            · have tc_7 := t_neq c_7
              obtain ⟨x_8, ex_8⟩ : ∃ y : Int32, y = j + 1 := ⟨_, rfl⟩
              refine lv_iinc (v := x_8) (lv' := [(3, .int x_8), (0, .ref h), (1, .int i), (2, .int d)]) hx hb dX5_isAble_61 hl (k := 0) rfl (by rw [ex_8]; rfl) (by decide) rfl (fun ls hl => ?_)
              first | have tx_8 := t_add ex_8 (by omega) (by omega) | skip
              refine lv_goto (tgt := 22) hx hb dX5_isAble_64 (by decide) ?_
              exact ih22 x_8 (by omega) (by omega) (by omega) ls (lv_sub hl [0, 1, 2, 3] rfl)
            · have tc_7 := t_eq c_7
              refine lv_iload_n hx hb dX5_isAble_40 rfl (lv_at hl 3 rfl) ?_
              refine lv_aload_n hx hb dX5_isAble_41 rfl (lv_at hl 1 rfl) ?_
              refine va_get (D := D) (ci := 5) (v := .ref a_absentFrom) (C := RX5) (T := TX5) (N := 8) hx hb hts in_k_isAble_X5 hown hK.1 hP 0 rfl rfl 4 (by decide) lk3 (fun _ h9 => h9) rfl dX5_isAble_42 ?_
              refine lv_iload_n hx hb dX5_isAble_45 rfl (lv_at hl 0 rfl) ?_
              refine va_iald hx hb hK.1 hP 3 0 rfl rfl (t_in (by omega) (by omega)) dX5_isAble_46 ?_
              refine lv_topi (fun y_9 ey_9 => ?_)
              refine lv_aload_n hx hb dX5_isAble_47 rfl (lv_at hl 1 rfl) ?_
              refine va_get (D := D) (ci := 5) (v := .ref a_absentTo) (C := RX5) (T := TX5) (N := 8) hx hb hts in_k_isAble_X5 hown hK.1 hP 0 rfl rfl 5 (by decide) lk4 (fun _ h9 => h9) rfl dX5_isAble_48 ?_
              refine lv_iload_n hx hb dX5_isAble_51 rfl (lv_at hl 0 rfl) ?_
              refine va_iald hx hb hK.1 hP 4 0 rfl rfl (t_in (by omega) (by omega)) dX5_isAble_52 ?_
              refine lv_topi (fun y_10 ey_10 => ?_)
              have hPc := hP.sub (ws' := []) [] rfl
              refine roSN (As := [.int d, .int y_9, .int y_10]) (rest := []) S (w_within  ) (⟨va_cnB 3 hts gX5_isAble_X11_within_n42 rfl rfl rfl (hK.nm 10 rfl) lk5 (by decide +kernel) ⟨Nat.le_of_ble_eq_true rfl, Nat.le_of_ble_eq_true rfl⟩, lk6, trivial⟩) hK hPc rfl hl.1 rfl (Nat.le_of_ble_eq_true rfl) dX5_isAble_53 ⟨Nat.le_of_ble_eq_true rfl, Nat.le_of_ble_eq_true rfl⟩ (fun r_11 hw_11 => ?_)
              have hw_11 : (r_11.toInt = 1 ∧ y_9.toInt ≤ d.toInt ∧ d.toInt ≤ y_10.toInt) ∨ (r_11.toInt = 0 ∧ (d.toInt < y_9.toInt ∨ y_10.toInt < d.toInt)) := hw_11
              refine lv_if_eq (tgt := 61) hx hb dX5_isAble_56 (by decide) (fun c_12 => ?_) (fun c_12 => ?_)
              · have tc_12 := t_eq c_12
                obtain ⟨x_13, ex_13⟩ : ∃ y : Int32, y = j + 1 := ⟨_, rfl⟩
                refine lv_iinc (v := x_13) (lv' := [(3, .int x_13), (0, .ref h), (1, .int i), (2, .int d)]) hx hb dX5_isAble_61 hl (k := 0) rfl (by rw [ex_13]; rfl) (by decide) rfl (fun ls hl => ?_)
                first | have tx_13 := t_add ex_13 (by omega) (by omega) | skip
                refine lv_goto (tgt := 22) hx hb dX5_isAble_64 (by decide) ?_
                exact ih22 x_13 (by omega) (by omega) (by omega) ls (lv_sub hl [0, 1, 2, 3] rfl)
              · have tc_12 := t_neq c_12
                refine lv_iconst (v := 0) hx hb dX5_isAble_59 (by decide) ?_
                exact hret 0 _ _ (show ((0 : Int32).toInt = 0 ∨ (0 : Int32).toInt = 1) from by omega) rfl dX5_isAble_60
      exact loop22 ((v_rows.toInt - (0 : Int32).toInt).toNat + 1) 0 (by omega) (by omega) (by omega) ls (lv_sub hl [0, 1, 2, 3] rfl)
    · have tc_4 := t_nle c_4
      refine lv_iconst (v := 0) hx hb dX5_isAble_18 (by decide) ?_
      exact hret 0 _ _ (show ((0 : Int32).toInt = 0 ∨ (0 : Int32).toInt = 1) from by omega) rfl dX5_isAble_19

theorem in_k_isBarred_X5 : ∀ w ∈ wsX50, w ∈ wsX5_isBarred := tl_X5_isBarred_X5
set_option maxHeartbeats 8000000 in
set_option maxRecDepth 100000 in
theorem k_isBarred {l : Launch} {D : va_G} {cI cZ cB : ClassId} {h a_priests a_barred a_cameOn a_absent a_absentFrom a_absentTo : Nat} {v_size v_rows : Int32} {f_barred : Nat → Int32} {i d : Int32} (hv_size0 : 0 ≤ v_size.toInt) (hv_size1 : v_size.toInt ≤ 24) : Met l yX5_isBarred wsX5_isBarred ({ frames := 1, cells := 0, slots := 0, locals := 21 }) (RO D cI cZ cB [.ref h, .int i, .int d] [(h, .inr (5, [.ref a_priests, .ref a_barred, .ref a_cameOn, .ref a_absent, .ref a_absentFrom, .ref a_absentTo, .int v_size, .int v_rows])), (a_barred, .inl (cI, 24, .inl f_barred))]) (vp_Si (fun r : Int32 => (r.toInt = 0 ∨ r.toInt = 1))) 0 0 (fun _ => False) := by
  refine ro_ret (cc := cX5_isBarred) (maxL := 3) (ty := .boolean) (own := RX5) (by decide) rfl rfl (Nat.le_of_ble_eq_true rfl) ?_
  intro p e s m args below meth c Q S hret hP hK ls hl
  obtain ⟨hx, hb, hml, hown, hts⟩ := id S
  have hl : lv_has ls 3 [(0, .ref h), (1, .int i), (2, .int d)] := hl
  have kk0 : (0 : Int32).toInt = 0 := by decide
  have kk1 : (1 : Int32).toInt = 1 := by decide
  have lk0 := hts (.fieldLink RX5 15 "AbbeyHours$Monks" "barred" "[I") (List.mem_cons_of_mem _ (List.mem_append_left _ (List.mem_of_getElem? (i := 0) rfl)))
  refine lv_aload_n hx hb dX5_isBarred_0 rfl (lv_at hl 0 rfl) ?_
  refine lv_iload_n hx hb dX5_isBarred_1 rfl (lv_at hl 1 rfl) ?_
  have hPc := hP.sub (ws' := [(h, .inr (5, [.ref a_priests, .ref a_barred, .ref a_cameOn, .ref a_absent, .ref a_absentFrom, .ref a_absentTo, .int v_size, .int v_rows]))]) [0] rfl
  refine roV (As := [.int i]) (rest := []) S (k_has  ) (cwV 1 hts gX5_isBarred_X5_has rfl rfl rfl ⟨rfl, hd_X5_has⟩ ⟨Nat.le_of_ble_eq_true rfl, Nat.le_of_ble_eq_true rfl⟩) hK hPc (va_recv hK.1 hPc (ci := 5) (q0 := 0) rfl rfl) rfl hl.1 rfl (Nat.le_of_ble_eq_true rfl) dX5_isBarred_2 ⟨Nat.le_of_ble_eq_true rfl, Nat.le_of_ble_eq_true rfl⟩ (fun r_1 hw_1 => ?_)
  have hw_1 : (r_1.toInt = 1 ∧ 0 ≤ i.toInt ∧ i.toInt < v_size.toInt) ∨ (r_1.toInt = 0 ∧ (i.toInt < 0 ∨ v_size.toInt ≤ i.toInt)) := hw_1
  refine lv_if_eq (tgt := 26) hx hb dX5_isBarred_5 (by decide) (fun c_2 => ?_) (fun c_2 => ?_)
  · have tc_2 := t_eq c_2
    refine lv_iconst (v := 0) hx hb dX5_isBarred_26 (by decide) ?_
    exact hret 0 _ _ (show ((0 : Int32).toInt = 0 ∨ (0 : Int32).toInt = 1) from by omega) rfl dX5_isBarred_27
  · have tc_2 := t_neq c_2
    refine lv_aload_n hx hb dX5_isBarred_8 rfl (lv_at hl 0 rfl) ?_
    refine va_get (D := D) (ci := 5) (v := .ref a_barred) (C := RX5) (T := TX5) (N := 8) hx hb hts in_k_isBarred_X5 hown hK.1 hP 0 rfl rfl 1 (by decide) lk0 (fun _ h9 => h9) rfl dX5_isBarred_9 ?_
    refine lv_iload_n hx hb dX5_isBarred_12 rfl (lv_at hl 1 rfl) ?_
    refine va_iald hx hb hK.1 hP 1 0 rfl rfl (t_in (by omega) (by omega)) dX5_isBarred_13 ?_
    refine lv_topi (fun y_3 ey_3 => ?_)
    refine lv_iload_n hx hb dX5_isBarred_14 rfl (lv_at hl 2 rfl) ?_
    refine lv_ishr hx hb dX5_isBarred_15 ?_
    refine lv_topi (fun x_4 ex_4 => ?_)
    refine lv_iconst (v := 1) hx hb dX5_isBarred_16 (by decide) ?_
    refine lv_iand hx hb dX5_isBarred_17 ?_
    refine lv_topi (fun x_5 ex_5 => ?_)
    refine lv_iconst (v := 1) hx hb dX5_isBarred_18 (by decide) ?_
    refine lv_icmp_ne (tgt := 26) hx hb dX5_isBarred_19 (by decide) (fun c_6 => ?_) (fun c_6 => ?_)
    · have tc_6 := t_neq c_6
      refine lv_iconst (v := 0) hx hb dX5_isBarred_26 (by decide) ?_
      exact hret 0 _ _ (show ((0 : Int32).toInt = 0 ∨ (0 : Int32).toInt = 1) from by omega) rfl dX5_isBarred_27
    · have tc_6 := t_eq c_6
      refine lv_iconst (v := 1) hx hb dX5_isBarred_22 (by decide) ?_
      refine lv_goto (tgt := 27) hx hb dX5_isBarred_23 (by decide) ?_
      exact hret 1 _ _ (show ((1 : Int32).toInt = 0 ∨ (1 : Int32).toInt = 1) from by omega) rfl dX5_isBarred_27

theorem in_k_able_X5 : ∀ w ∈ wsX50, w ∈ wsX5_ablePriests := tl_X5_ablePriests_X5
set_option maxHeartbeats 8000000 in
set_option maxRecDepth 100000 in
theorem k_able {l : Launch} {D : va_G} {cI cZ cB : ClassId} {h a_priests a_barred a_cameOn a_absent a_absentFrom a_absentTo : Nat} {v_size v_rows : Int32} {f_priests f_cameOn f_absent f_absentFrom f_absentTo : Nat → Int32} {d : Int32} (hv_size0 : 0 ≤ v_size.toInt) (hv_size1 : v_size.toInt ≤ 24) (hv_rows0 : 0 ≤ v_rows.toInt) (hv_rows1 : v_rows.toInt ≤ 60) : Met l yX5_ablePriests wsX5_ablePriests ({ frames := 2, cells := 0, slots := 0, locals := 45 }) (RO D cI cZ cB [.ref h, .int d] [(h, .inr (5, [.ref a_priests, .ref a_barred, .ref a_cameOn, .ref a_absent, .ref a_absentFrom, .ref a_absentTo, .int v_size, .int v_rows])), (a_priests, .inl (cZ, 24, .inl f_priests)), (a_cameOn, .inl (cI, 24, .inl f_cameOn)), (a_absent, .inl (cI, 60, .inl f_absent)), (a_absentFrom, .inl (cI, 60, .inl f_absentFrom)), (a_absentTo, .inl (cI, 60, .inl f_absentTo))]) (vp_Si (fun r : Int32 => 0 ≤ r.toInt ∧ r.toInt ≤ v_size.toInt)) 0 0 (fun _ => False) := by
  refine ro_ret (cc := cX5_ablePriests) (maxL := 4) (ty := .int) (own := RX5) (by decide) rfl rfl (Nat.le_of_ble_eq_true rfl) ?_
  intro p e s m args below meth c Q S hret hP hK ls hl
  obtain ⟨hx, hb, hml, hown, hts⟩ := id S
  have hl : lv_has ls 4 [(0, .ref h), (1, .int d)] := hl
  have kk0 : (0 : Int32).toInt = 0 := by decide
  have kk1 : (1 : Int32).toInt = 1 := by decide
  have lk0 := hts (.fieldLink RX5 31 "AbbeyHours$Monks" "size" "I") (List.mem_cons_of_mem _ (List.mem_append_left _ (List.mem_of_getElem? (i := 0) rfl)))
  have lk1 := hts (.fieldLink RX5 11 "AbbeyHours$Monks" "priests" "[Z") (List.mem_cons_of_mem _ (List.mem_append_left _ (List.mem_of_getElem? (i := 1) rfl)))
  refine lv_iconst (v := 0) hx hb dX5_ablePriests_0 (by decide) ?_
  refine lv_istore_n (lv' := [(2, .int 0), (0, .ref h), (1, .int d)]) hx hb dX5_ablePriests_1 rfl hl (by decide) rfl (fun ls hl => ?_)
  refine lv_iconst (v := 0) hx hb dX5_ablePriests_2 (by decide) ?_
  refine lv_istore_n (lv' := [(3, .int 0), (2, .int 0), (0, .ref h), (1, .int d)]) hx hb dX5_ablePriests_3 rfl hl (by decide) rfl (fun ls hl => ?_)
  have loop4 : ∀ (fuel : Nat) (a : Int32) (j : Int32), v_size.toInt - j.toInt < (fuel : Int) → (0 ≤ j.toInt) → (j.toInt ≤ v_size.toInt) → (0 ≤ a.toInt) → (a.toInt ≤ j.toInt) → ∀ ls : Array Slot, lv_has ls 4 [(3, .int j), (2, .int a), (0, .ref h), (1, .int d)] → W p l e ({ frames := 2, cells := 0, slots := 0, locals := 45 } : Room) s m args below meth c s.heap [] 0 0 Q (F0 m 4 ls []) := by
    intro fuel
    induction fuel with
    | zero =>
      intro a j hmu hj0 hj1 ha0 ha1 ls hl
      exfalso; omega
    | succ fuel ih4 =>
      intro a j hmu hj0 hj1 ha0 ha1 ls hl
      refine lv_iload_n hx hb dX5_ablePriests_4 rfl (lv_at hl 0 rfl) ?_
      refine lv_aload_n hx hb dX5_ablePriests_5 rfl (lv_at hl 2 rfl) ?_
      refine va_get (D := D) (ci := 5) (v := .int v_size) (C := RX5) (T := TX5) (N := 8) hx hb hts in_k_able_X5 hown hK.1 hP 0 rfl rfl 6 (by decide) lk0 (fun _ h9 => h9) rfl dX5_ablePriests_6 ?_
      refine lv_icmp_ge (tgt := 39) hx hb dX5_ablePriests_9 (by decide) (fun c_1 => ?_) (fun c_1 => ?_)
      · have tc_1 := t_le c_1
        refine lv_iload_n hx hb dX5_ablePriests_39 rfl (lv_at hl 1 rfl) ?_
        exact hret a _ _ (show 0 ≤ a.toInt ∧ a.toInt ≤ v_size.toInt from by omega) rfl dX5_ablePriests_40
      · have tc_1 := t_nle c_1
        refine lv_aload_n hx hb dX5_ablePriests_12 rfl (lv_at hl 2 rfl) ?_
        refine va_get (D := D) (ci := 5) (v := .ref a_priests) (C := RX5) (T := TX5) (N := 8) hx hb hts in_k_able_X5 hown hK.1 hP 0 rfl rfl 0 (by decide) lk1 (fun _ h9 => h9) rfl dX5_ablePriests_13 ?_
        refine lv_iload_n hx hb dX5_ablePriests_16 rfl (lv_at hl 0 rfl) ?_
        refine va_zald hx hb hK.1 hP 1 1 rfl rfl (t_in (by omega) (by omega)) dX5_ablePriests_17 ?_
        refine lv_topi (fun y_2 ey_2 => ?_)
        refine lv_if_eq (tgt := 33) hx hb dX5_ablePriests_18 (by decide) (fun c_3 => ?_) (fun c_3 => ?_)
        · have tc_3 := t_eq c_3
          obtain ⟨x_4, ex_4⟩ : ∃ y : Int32, y = j + 1 := ⟨_, rfl⟩
          refine lv_iinc (v := x_4) (lv' := [(3, .int x_4), (2, .int a), (0, .ref h), (1, .int d)]) hx hb dX5_ablePriests_33 hl (k := 0) rfl (by rw [ex_4]; rfl) (by decide) rfl (fun ls hl => ?_)
          first | have tx_4 := t_add ex_4 (by omega) (by omega) | skip
          refine lv_goto (tgt := 4) hx hb dX5_ablePriests_36 (by decide) ?_
          exact ih4 a x_4 (by omega) (by omega) (by omega) (by omega) (by omega) ls (lv_sub hl [0, 1, 2, 3] rfl)
        · have tc_3 := t_neq c_3
          refine lv_aload_n hx hb dX5_ablePriests_21 rfl (lv_at hl 2 rfl) ?_
          refine lv_iload_n hx hb dX5_ablePriests_22 rfl (lv_at hl 0 rfl) ?_
          refine lv_iload_n hx hb dX5_ablePriests_23 rfl (lv_at hl 3 rfl) ?_
          have hPc := hP.sub (ws' := [(h, .inr (5, [.ref a_priests, .ref a_barred, .ref a_cameOn, .ref a_absent, .ref a_absentFrom, .ref a_absentTo, .int v_size, .int v_rows])), (a_cameOn, .inl (cI, 24, .inl f_cameOn)), (a_absent, .inl (cI, 60, .inl f_absent)), (a_absentFrom, .inl (cI, 60, .inl f_absentFrom)), (a_absentTo, .inl (cI, 60, .inl f_absentTo))]) [0, 2, 3, 4, 5] rfl
          refine roV (As := [.int j, .int d]) (rest := []) S (k_isAble  (by omega) (by omega) (by omega) (by omega)) (cwV 2 hts gX5_ablePriests_X5_isAble rfl rfl rfl ⟨rfl, hd_X5_isAble⟩ ⟨Nat.le_of_ble_eq_true rfl, Nat.le_of_ble_eq_true rfl⟩) hK hPc (va_recv hK.1 hPc (ci := 5) (q0 := 0) rfl rfl) rfl hl.1 rfl (Nat.le_of_ble_eq_true rfl) dX5_ablePriests_24 ⟨Nat.le_of_ble_eq_true rfl, Nat.le_of_ble_eq_true rfl⟩ (fun r_5 hw_5 => ?_)
          have hw_5 : (r_5.toInt = 0 ∨ r_5.toInt = 1) := hw_5
          refine lv_if_eq (tgt := 33) hx hb dX5_ablePriests_27 (by decide) (fun c_6 => ?_) (fun c_6 => ?_)
          · have tc_6 := t_eq c_6
            obtain ⟨x_7, ex_7⟩ : ∃ y : Int32, y = j + 1 := ⟨_, rfl⟩
            refine lv_iinc (v := x_7) (lv' := [(3, .int x_7), (2, .int a), (0, .ref h), (1, .int d)]) hx hb dX5_ablePriests_33 hl (k := 0) rfl (by rw [ex_7]; rfl) (by decide) rfl (fun ls hl => ?_)
            first | have tx_7 := t_add ex_7 (by omega) (by omega) | skip
            refine lv_goto (tgt := 4) hx hb dX5_ablePriests_36 (by decide) ?_
            exact ih4 a x_7 (by omega) (by omega) (by omega) (by omega) (by omega) ls (lv_sub hl [0, 1, 2, 3] rfl)
          · have tc_6 := t_neq c_6
            obtain ⟨x_8, ex_8⟩ : ∃ y : Int32, y = a + 1 := ⟨_, rfl⟩
            refine lv_iinc (v := x_8) (lv' := [(2, .int x_8), (3, .int j), (0, .ref h), (1, .int d)]) hx hb dX5_ablePriests_30 hl (k := 1) rfl (by rw [ex_8]; rfl) (by decide) rfl (fun ls hl => ?_)
            first | have tx_8 := t_add ex_8 (by omega) (by omega) | skip
            obtain ⟨x_9, ex_9⟩ : ∃ y : Int32, y = j + 1 := ⟨_, rfl⟩
            refine lv_iinc (v := x_9) (lv' := [(3, .int x_9), (2, .int x_8), (0, .ref h), (1, .int d)]) hx hb dX5_ablePriests_33 hl (k := 1) rfl (by rw [ex_9]; rfl) (by decide) rfl (fun ls hl => ?_)
            first | have tx_9 := t_add ex_9 (by omega) (by omega) | skip
            refine lv_goto (tgt := 4) hx hb dX5_ablePriests_36 (by decide) ?_
            exact ih4 x_8 x_9 (by omega) (by omega) (by omega) (by omega) (by omega) ls (lv_sub hl [0, 1, 2, 3] rfl)
  exact loop4 ((v_size.toInt - (0 : Int32).toInt).toNat + 1) 0 0 (by omega) (by omega) (by omega) (by omega) (by omega) ls (lv_sub hl [0, 1, 2, 3] rfl)

