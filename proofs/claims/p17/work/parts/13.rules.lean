theorem in_r_size_X7 : ∀ w ∈ wsX70, w ∈ wsX7_size := tl_X7_size_X7
set_option maxHeartbeats 8000000 in
set_option maxRecDepth 100000 in
theorem r_size {l : Launch} {D : va_G} {cI cZ cB : ClassId} {h a_since a_sizes a_kinds a_firsts a_seconds : Nat} {v_size : Int32}   : Met l yX7_size wsX7_size ({ frames := 0, cells := 0, slots := 0, locals := 0 }) (RO D cI cZ cB [.ref h] [(h, .inr (7, [.ref a_since, .ref a_sizes, .ref a_kinds, .ref a_firsts, .ref a_seconds, .int v_size]))]) (vp_Si (fun r : Int32 => r = v_size)) 0 0 (fun _ => False) := by
  refine ro_ret (cc := cX7_size) (maxL := 1) (ty := .int) (own := RX7) (by decide) rfl rfl (Nat.le_of_ble_eq_true rfl) ?_
  intro p e s m args below meth c Q S hret hP hK ls hl
  obtain ⟨hx, hb, hml, hown, hts⟩ := id S
  have hl : lv_has ls 1 [(0, .ref h)] := hl
  have kk0 : (0 : Int32).toInt = 0 := by decide
  have lk0 := hts (.fieldLink RX7 29 "AbbeyHours$Rules" "size" "I") (List.mem_cons_of_mem _ (List.mem_append_left _ (List.mem_of_getElem? (i := 0) rfl)))
  refine lv_aload_n hx hb dX7_size_0 rfl (lv_at hl 0 rfl) ?_
  refine va_get (D := D) (ci := 7) (v := .int v_size) (C := RX7) (T := TX7) (N := 6) hx hb hts in_r_size_X7 hown hK.1 hP 0 rfl rfl 5 (by decide) lk0 (fun _ h9 => h9) rfl dX7_size_1 ?_
  exact hret v_size _ _ (show v_size = v_size from rfl) rfl dX7_size_4

theorem in_r_isFull_X7 : ∀ w ∈ wsX70, w ∈ wsX7_isFull := tl_X7_isFull_X7
set_option maxHeartbeats 8000000 in
set_option maxRecDepth 100000 in
theorem r_isFull {l : Launch} {D : va_G} {cI cZ cB : ClassId} {h a_since a_sizes a_kinds a_firsts a_seconds : Nat} {v_size : Int32}   : Met l yX7_isFull wsX7_isFull ({ frames := 0, cells := 0, slots := 0, locals := 0 }) (RO D cI cZ cB [.ref h] [(h, .inr (7, [.ref a_since, .ref a_sizes, .ref a_kinds, .ref a_firsts, .ref a_seconds, .int v_size]))]) (vp_Si (fun r : Int32 => (r.toInt = 1 ∧ 10 ≤ v_size.toInt) ∨ (r.toInt = 0 ∧ v_size.toInt < 10))) 0 0 (fun _ => False) := by
  refine ro_ret (cc := cX7_isFull) (maxL := 1) (ty := .boolean) (own := RX7) (by decide) rfl rfl (Nat.le_of_ble_eq_true rfl) ?_
  intro p e s m args below meth c Q S hret hP hK ls hl
  obtain ⟨hx, hb, hml, hown, hts⟩ := id S
  have hl : lv_has ls 1 [(0, .ref h)] := hl
  have kk0 : (0 : Int32).toInt = 0 := by decide
  have kk1 : (1 : Int32).toInt = 1 := by decide
  have kk10 : (10 : Int32).toInt = 10 := by decide
  have lk0 := hts (.fieldLink RX7 29 "AbbeyHours$Rules" "size" "I") (List.mem_cons_of_mem _ (List.mem_append_left _ (List.mem_of_getElem? (i := 0) rfl)))
  refine lv_aload_n hx hb dX7_isFull_0 rfl (lv_at hl 0 rfl) ?_
  refine va_get (D := D) (ci := 7) (v := .int v_size) (C := RX7) (T := TX7) (N := 6) hx hb hts in_r_isFull_X7 hown hK.1 hP 0 rfl rfl 5 (by decide) lk0 (fun _ h9 => h9) rfl dX7_isFull_1 ?_
  refine lv_bipush (v := 10) hx hb dX7_isFull_4 (by decide) ?_
  refine lv_icmp_lt (tgt := 13) hx hb dX7_isFull_6 (by decide) (fun c_1 => ?_) (fun c_1 => ?_)
  · have tc_1 := t_lt c_1
    refine lv_iconst (v := 0) hx hb dX7_isFull_13 (by decide) ?_
    exact hret 0 _ _ (show ((0 : Int32).toInt = 1 ∧ 10 ≤ v_size.toInt) ∨ ((0 : Int32).toInt = 0 ∧ v_size.toInt < 10) from by omega) rfl dX7_isFull_14
  · have tc_1 := t_nlt c_1
    refine lv_iconst (v := 1) hx hb dX7_isFull_9 (by decide) ?_
    refine lv_goto (tgt := 14) hx hb dX7_isFull_10 (by decide) ?_
    exact hret 1 _ _ (show ((1 : Int32).toInt = 1 ∧ 10 ≤ v_size.toInt) ∨ ((1 : Int32).toInt = 0 ∧ v_size.toInt < 10) from by omega) rfl dX7_isFull_14

