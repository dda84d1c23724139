theorem in_r_size_X7 : ∀ w ∈ wsX70, w ∈ wsX7_size := tl_X7_size_X7
set_option maxHeartbeats 8000000 in
set_option maxRecDepth 100000 in
theorem r_size {l : Launch} {D : va_G} {cI cZ cB : ClassId} {h a_since a_sizes a_kinds a_firsts a_seconds : Nat} {v_size : Int32}   : Met l yX7_size wsX7_size ({ frames := 0, cells := 0, slots := 0, locals := 0 }) (RO D cI cZ cB [.ref h] [(h, .inr (7, [.ref a_since, .ref a_sizes, .ref a_kinds, .ref a_firsts, .ref a_seconds, .int v_size]))]) (vp_Si (fun r : Int32 => r = v_size)) 0 0 (fun _ => False) := by
  refine ro_ret (cc := cX7_size) (maxL := 1) (ty := .int) (own := RX7) (by decide) rfl rfl (Nat.le_of_ble_eq_true rfl) ?_
  intro p e s m args below meth c Q S hret hP hK ls hl
  obtain ⟨hx, hb, hml, hown, hts⟩ := id S
  have hl : lv_has ls 1 [(0, .ref h)] := hl
  have kk0 : (0 : Int32).toInt = 0 := by decide
  have lk0 := hts (.fieldLink RX7 29 "AbbeyHours$Rules" "size" "I") (List.mem_cons_of_mem _ (List.mem_append_left _ (List.mem_of_getElem? (i := 0) rfl)))
  refine lv_aload_n hx hb dX7_size_0 rfl (lv_at hl 0 rfl) ?_
  refine va_get (D := D) (ci := 7) (v := .int v_size) (C := RX7) (T := TX7) (N := 6) hx hb hts in_r_size_X7 hown hK.1 hP 0 rfl rfl 5 (by decide) lk0 (fun _ h9 => h9) rfl dX7_size_1 ?_
  exact hret v_size _ _ (show v_size = v_size from rfl) rfl dX7_size_4

theorem in_r_isFull_X7 : ∀ w ∈ wsX70, w ∈ wsX7_isFull := tl_X7_isFull_X7
set_option maxHeartbeats 8000000 in
set_option maxRecDepth 100000 in
theorem r_isFull {l : Launch} {D : va_G} {cI cZ cB : ClassId} {h a_since a_sizes a_kinds a_firsts a_seconds : Nat} {v_size : Int32}   : Met l yX7_isFull wsX7_isFull ({ frames := 0, cells := 0, slots := 0, locals := 0 }) (RO D cI cZ cB [.ref h] [(h, .inr (7, [.ref a_since, .ref a_sizes, .ref a_kinds, .ref a_firsts, .ref a_seconds, .int v_size]))]) (vp_Si (fun r : Int32 => (r.toInt = 1 ∧ 10 ≤ v_size.toInt) ∨ (r.toInt = 0 ∧ v_size.toInt < 10))) 0 0 (fun _ => False) := by
  refine ro_ret (cc := cX7_isFull) (maxL := 1) (ty := .boolean) (own := RX7) (by decide) rfl rfl (Nat.le_of_ble_eq_true rfl) ?_
  intro p e s m args below meth c Q S hret hP hK ls hl
  obtain ⟨hx, hb, hml, hown, hts⟩ := id S
  have hl : lv_has ls 1 [(0, .ref h)] := hl
  have kk0 : (0 : Int32).toInt = 0 := by decide
  have kk1 : (1 : Int32).toInt = 1 := by decide
  have kk10 : (10 : Int32).toInt = 10 := by decide
  have lk0 := hts (.fieldLink RX7 29 "AbbeyHours$Rules" "size" "I") (List.mem_cons_of_mem _ (List.mem_append_left _ (List.mem_of_getElem? (i := 0) rfl)))
  refine lv_aload_n hx hb dX7_isFull_0 rfl (lv_at hl 0 rfl) ?_
  refine va_get (D := D) (ci := 7) (v := .int v_size) (C := RX7) (T := TX7) (N := 6) hx hb hts in_r_isFull_X7 hown hK.1 hP 0 rfl rfl 5 (by decide) lk0 (fun _ h9 => h9) rfl dX7_isFull_1 ?_
  refine lv_bipush (v := 10) hx hb dX7_isFull_4 (by decide) ?_
  refine lv_icmp_lt (tgt := 13) hx hb dX7_isFull_6 (by decide) (fun c_1 => ?_) (fun c_1 => ?_)
  · have tc_1 := t_lt c_1
    refine lv_iconst (v := 0) hx hb dX7_isFull_13 (by decide) ?_
    exact hret 0 _ _ (show ((0 : Int32).toInt = 1 ∧ 10 ≤ v_size.toInt) ∨ ((0 : Int32).toInt = 0 ∧ v_size.toInt < 10) from by omega) rfl dX7_isFull_14
  · have tc_1 := t_nlt c_1
    refine lv_iconst (v := 1) hx hb dX7_isFull_9 (by decide) ?_
    refine lv_goto (tgt := 14) hx hb dX7_isFull_10 (by decide) ?_
    exact hret 1 _ _ (show ((1 : Int32).toInt = 1 ∧ 10 ≤ v_size.toInt) ∨ ((1 : Int32).toInt = 0 ∧ v_size.toInt < 10) from by omega) rfl dX7_isFull_14

theorem in_r_inForce_X7 : ∀ w ∈ wsX70, w ∈ wsX7_inForce := tl_X7_inForce_X7
set_option maxHeartbeats 8000000 in
set_option maxRecDepth 100000 in
theorem r_inForce {l : Launch} {D : va_G} {cI cZ cB : ClassId} {h a_since a_sizes a_kinds a_firsts a_seconds : Nat} {v_size : Int32} {f_since : Nat → Int32} {d : Int32} (hv_size0 : 0 ≤ v_size.toInt) (hv_size1 : v_size.toInt ≤ 10) : Met l yX7_inForce wsX7_inForce ({ frames := 0, cells := 0, slots := 0, locals := 0 }) (RO D cI cZ cB [.ref h, .int d] [(h, .inr (7, [.ref a_since, .ref a_sizes, .ref a_kinds, .ref a_firsts, .ref a_seconds, .int v_size])), (a_since, .inl (cI, 10, .inl f_since))]) (vp_Si (fun r : Int32 => r.toInt = -1 ∨ (0 ≤ r.toInt ∧ r.toInt < v_size.toInt))) 0 0 (fun _ => False) := by
  refine ro_ret (cc := cX7_inForce) (maxL := 3) (ty := .int) (own := RX7) (by decide) rfl rfl (Nat.le_of_ble_eq_true rfl) ?_
  intro p e s m args below meth c Q S hret hP hK ls hl
  obtain ⟨hx, hb, hml, hown, hts⟩ := id S
  have hl : lv_has ls 3 [(0, .ref h), (1, .int d)] := hl
  have kkm1 : (-1 : Int32).toInt = -1 := by decide
  have kk0 : (0 : Int32).toInt = 0 := by decide
  have kk1 : (1 : Int32).toInt = 1 := by decide
  have lk0 := hts (.fieldLink RX7 29 "AbbeyHours$Rules" "size" "I") (List.mem_cons_of_mem _ (List.mem_append_left _ (List.mem_of_getElem? (i := 0) rfl)))
  have lk1 := hts (.fieldLink RX7 13 "AbbeyHours$Rules" "since" "[I") (List.mem_cons_of_mem _ (List.mem_append_left _ (List.mem_of_getElem? (i := 1) rfl)))
  refine lv_aload_n hx hb dX7_inForce_0 rfl (lv_at hl 0 rfl) ?_
  refine va_get (D := D) (ci := 7) (v := .int v_size) (C := RX7) (T := TX7) (N := 6) hx hb hts in_r_inForce_X7 hown hK.1 hP 0 rfl rfl 5 (by decide) lk0 (fun _ h9 => h9) rfl dX7_inForce_1 ?_
  refine lv_iconst (v := 1) hx hb dX7_inForce_4 (by decide) ?_
  refine lv_isub hx hb dX7_inForce_5 ?_
  refine lv_topi (fun x_1 ex_1 => ?_)
  first | have tx_1 := t_sub ex_1 (by omega) (by omega) | skip
  refine lv_istore_n (lv' := [(2, .int x_1), (0, .ref h), (1, .int d)]) hx hb dX7_inForce_6 rfl hl (by decide) rfl (fun ls hl => ?_)
  have loop7 : ∀ (fuel : Nat) (j : Int32), j.toInt + 1 < (fuel : Int) → (-1 ≤ j.toInt) → (j.toInt < v_size.toInt) → ∀ ls : Array Slot, lv_has ls 3 [(2, .int j), (0, .ref h), (1, .int d)] → W p l e ({ frames := 0, cells := 0, slots := 0, locals := 0 } : Room) s m args below meth c s.heap [] 0 0 Q (F0 m 7 ls []) := by
    intro fuel
    induction fuel with
    | zero =>
      intro j hmu hj0 hj1 ls hl
      exfalso; omega
    | succ fuel ih7 =>
      intro j hmu hj0 hj1 ls hl
      refine lv_iload_n hx hb dX7_inForce_7 rfl (lv_at hl 0 rfl) ?_
      refine lv_if_lt (tgt := 29) hx hb dX7_inForce_8 (by decide) (fun c_2 => ?_) (fun c_2 => ?_)
      · have tc_2 := t_lt c_2
        refine lv_iconst (v := (-1)) hx hb dX7_inForce_29 (by decide) ?_
        exact hret (-1) _ _ (show (-1 : Int32).toInt = -1 ∨ (0 ≤ (-1 : Int32).toInt ∧ (-1 : Int32).toInt < v_size.toInt) from by omega) rfl dX7_inForce_30
      · have tc_2 := t_nlt c_2
        refine lv_aload_n hx hb dX7_inForce_11 rfl (lv_at hl 1 rfl) ?_
        refine va_get (D := D) (ci := 7) (v := .ref a_since) (C := RX7) (T := TX7) (N := 6) hx hb hts in_r_inForce_X7 hown hK.1 hP 0 rfl rfl 0 (by decide) lk1 (fun _ h9 => h9) rfl dX7_inForce_12 ?_
        refine lv_iload_n hx hb dX7_inForce_15 rfl (lv_at hl 0 rfl) ?_
        refine va_iald hx hb hK.1 hP 1 0 rfl rfl (t_in (by omega) (by omega)) dX7_inForce_16 ?_
        refine lv_topi (fun y_3 ey_3 => ?_)
        refine lv_iload_n hx hb dX7_inForce_17 rfl (lv_at hl 2 rfl) ?_
        refine lv_icmp_gt (tgt := 23) hx hb dX7_inForce_18 (by decide) (fun c_4 => ?_) (fun c_4 => ?_)
        · have tc_4 := t_lt c_4
          obtain ⟨x_5, ex_5⟩ : ∃ y : Int32, y = j + (-1) := ⟨_, rfl⟩
          refine lv_iinc (v := x_5) (lv' := [(2, .int x_5), (0, .ref h), (1, .int d)]) hx hb dX7_inForce_23 hl (k := 0) rfl (by rw [ex_5]; rfl) (by decide) rfl (fun ls hl => ?_)
          first | have tx_5 := t_add ex_5 (by omega) (by omega) | skip
          refine lv_goto (tgt := 7) hx hb dX7_inForce_26 (by decide) ?_
          exact ih7 x_5 (by omega) (by omega) (by omega) ls (lv_sub hl [0, 1, 2] rfl)
        · have tc_4 := t_nlt c_4
          refine lv_iload_n hx hb dX7_inForce_21 rfl (lv_at hl 0 rfl) ?_
          exact hret j _ _ (show j.toInt = -1 ∨ (0 ≤ j.toInt ∧ j.toInt < v_size.toInt) from by omega) rfl dX7_inForce_22
  exact loop7 ((x_1.toInt + 1).toNat + 1) x_1 (by omega) (by omega) (by omega) ls (lv_sub hl [0, 1, 2] rfl)

theorem in_r_tells_X7 : ∀ w ∈ wsX70, w ∈ wsX7_tellsFast := tl_X7_tellsFast_X7
set_option maxHeartbeats 8000000 in
set_option maxRecDepth 100000 in
theorem r_tells {l : Launch} {D : va_G} {cI cZ cB : ClassId} {h a_since a_sizes a_kinds a_firsts a_seconds : Nat} {v_size : Int32} {f_kinds f_firsts f_seconds : Nat → Int32} {i d : Int32} (hi0 : 0 ≤ i.toInt) (hi1 : i.toInt < 160) : Met l yX7_tellsFast wsX7_tellsFast ({ frames := 0, cells := 0, slots := 0, locals := 0 }) (RO D cI cZ cB [.ref h, .int i, .int d] [(h, .inr (7, [.ref a_since, .ref a_sizes, .ref a_kinds, .ref a_firsts, .ref a_seconds, .int v_size])), (a_kinds, .inl (cI, 160, .inl f_kinds)), (a_firsts, .inl (cI, 160, .inl f_firsts)), (a_seconds, .inl (cI, 160, .inl f_seconds))]) (vp_Si (fun r : Int32 => (r.toInt = 0 ∨ r.toInt = 1))) 0 0 (fun _ => False) := by
  refine ro_ret (cc := cX7_tellsFast) (maxL := 6) (ty := .boolean) (own := RX7) (by decide) rfl rfl (Nat.le_of_ble_eq_true rfl) ?_
  intro p e s m args below meth c Q S hret hP hK ls hl
  obtain ⟨hx, hb, hml, hown, hts⟩ := id S
  have hl : lv_has ls 6 [(0, .ref h), (1, .int i), (2, .int d)] := hl
  have kk0 : (0 : Int32).toInt = 0 := by decide
  have kk1 : (1 : Int32).toInt = 1 := by decide
  have kk2 : (2 : Int32).toInt = 2 := by decide
  have kk7 : (7 : Int32).toInt = 7 := by decide
  have kk365 : (365 : Int32).toInt = 365 := by decide
  have lk0 := hts (.fieldLink RX7 20 "AbbeyHours$Rules" "kinds" "[I") (List.mem_cons_of_mem _ (List.mem_append_left _ (List.mem_of_getElem? (i := 0) rfl)))
  have lk1 := hts (.fieldLink RX7 23 "AbbeyHours$Rules" "firsts" "[I") (List.mem_cons_of_mem _ (List.mem_append_left _ (List.mem_of_getElem? (i := 1) rfl)))
  have lk2 := hts (.fieldLink RX7 26 "AbbeyHours$Rules" "seconds" "[I") (List.mem_cons_of_mem _ (List.mem_append_left _ (List.mem_of_getElem? (i := 2) rfl)))
  refine lv_iload_n hx hb dX7_tellsFast_0 rfl (lv_at hl 2 rfl) ?_
  refine lv_sipush (v := 365) hx hb dX7_tellsFast_1 (by decide) ?_
  refine lv_irem hx hb dX7_tellsFast_4 (by decide) ?_
  refine lv_topi (fun x_1 ex_1 => ?_)
  refine lv_istore_n (lv' := [(3, .int x_1), (0, .ref h), (1, .int i), (2, .int d)]) hx hb dX7_tellsFast_5 rfl hl (by decide) rfl (fun ls hl => ?_)
  refine lv_aload_n hx hb dX7_tellsFast_6 rfl (lv_at hl 1 rfl) ?_
  refine va_get (D := D) (ci := 7) (v := .ref a_kinds) (C := RX7) (T := TX7) (N := 6) hx hb hts in_r_tells_X7 hown hK.1 hP 0 rfl rfl 2 (by decide) lk0 (fun _ h9 => h9) rfl dX7_tellsFast_7 ?_
  refine lv_iload_n hx hb dX7_tellsFast_10 rfl (lv_at hl 2 rfl) ?_
  refine va_iald hx hb hK.1 hP 1 0 rfl rfl (t_in (by omega) (by omega)) dX7_tellsFast_11 ?_
  refine lv_topi (fun y_2 ey_2 => ?_)
  refine lv_iconst (v := 1) hx hb dX7_tellsFast_12 (by decide) ?_
  refine lv_icmp_ne (tgt := 35) hx hb dX7_tellsFast_13 (by decide) (fun c_3 => ?_) (fun c_3 => ?_)
  · have tc_3 := t_neq c_3
    refine lv_aload_n hx hb dX7_tellsFast_35 rfl (lv_at hl 1 rfl) ?_
    refine va_get (D := D) (ci := 7) (v := .ref a_kinds) (C := RX7) (T := TX7) (N := 6) hx hb hts in_r_tells_X7 hown hK.1 hP 0 rfl rfl 2 (by decide) lk0 (fun _ h9 => h9) rfl dX7_tellsFast_36 ?_
    refine lv_iload_n hx hb dX7_tellsFast_39 rfl (lv_at hl 2 rfl) ?_
    refine va_iald hx hb hK.1 hP 1 0 rfl rfl (t_in (by omega) (by omega)) dX7_tellsFast_40 ?_
    refine lv_topi (fun y_4 ey_4 => ?_)
    refine lv_iconst (v := 2) hx hb dX7_tellsFast_41 (by decide) ?_
    refine lv_icmp_eq (tgt := 47) hx hb dX7_tellsFast_42 (by decide) (fun c_5 => ?_) (fun c_5 => ?_)
    · have tc_5 := t_eq c_5
      refine lv_iload_n hx hb dX7_tellsFast_47 rfl (lv_at hl 0 rfl) ?_
      refine lv_aload_n hx hb dX7_tellsFast_48 rfl (lv_at hl 1 rfl) ?_
      refine va_get (D := D) (ci := 7) (v := .ref a_firsts) (C := RX7) (T := TX7) (N := 6) hx hb hts in_r_tells_X7 hown hK.1 hP 0 rfl rfl 3 (by decide) lk1 (fun _ h9 => h9) rfl dX7_tellsFast_49 ?_
      refine lv_iload_n hx hb dX7_tellsFast_52 rfl (lv_at hl 2 rfl) ?_
      refine va_iald hx hb hK.1 hP 2 0 rfl rfl (t_in (by omega) (by omega)) dX7_tellsFast_53 ?_
      refine lv_topi (fun y_6 ey_6 => ?_)
      refine lv_icmp_lt (tgt := 61) hx hb dX7_tellsFast_54 (by decide) (fun c_7 => ?_) (fun c_7 => ?_)
      · have tc_7 := t_lt c_7
        refine lv_iconst (v := 0) hx hb dX7_tellsFast_61 (by decide) ?_
        refine lv_istore (lv' := [(4, .int 0), (3, .int x_1), (0, .ref h), (1, .int i), (2, .int d)]) hx hb dX7_tellsFast_62 hl (by decide) rfl (fun ls hl => ?_)
        refine lv_iload_n hx hb dX7_tellsFast_64 rfl (lv_at hl 1 rfl) ?_
        refine lv_aload_n hx hb dX7_tellsFast_65 rfl (lv_at hl 2 rfl) ?_
        refine va_get (D := D) (ci := 7) (v := .ref a_seconds) (C := RX7) (T := TX7) (N := 6) hx hb hts in_r_tells_X7 hown hK.1 hP 0 rfl rfl 4 (by decide) lk2 (fun _ h9 => h9) rfl dX7_tellsFast_66 ?_
        refine lv_iload_n hx hb dX7_tellsFast_69 rfl (lv_at hl 3 rfl) ?_
        refine va_iald hx hb hK.1 hP 3 0 rfl rfl (t_in (by omega) (by omega)) dX7_tellsFast_70 ?_
        refine lv_topi (fun y_8 ey_8 => ?_)
        refine lv_icmp_gt (tgt := 78) hx hb dX7_tellsFast_71 (by decide) (fun c_9 => ?_) (fun c_9 => ?_)
        · have tc_9 := t_lt c_9
          refine lv_iconst (v := 0) hx hb dX7_tellsFast_78 (by decide) ?_
          refine lv_istore (lv' := [(5, .int 0), (4, .int 0), (3, .int x_1), (0, .ref h), (1, .int i), (2, .int d)]) hx hb dX7_tellsFast_79 hl (by decide) rfl (fun ls hl => ?_)
          refine lv_aload_n hx hb dX7_tellsFast_81 rfl (lv_at hl 3 rfl) ?_
          refine va_get (D := D) (ci := 7) (v := .ref a_seconds) (C := RX7) (T := TX7) (N := 6) hx hb hts in_r_tells_X7 hown hK.1 hP 0 rfl rfl 4 (by decide) lk2 (fun _ h9 => h9) rfl dX7_tellsFast_82 ?_
          refine lv_iload_n hx hb dX7_tellsFast_85 rfl (lv_at hl 4 rfl) ?_
          refine va_iald hx hb hK.1 hP 3 0 rfl rfl (t_in (by omega) (by omega)) dX7_tellsFast_86 ?_
          refine lv_topi (fun y_10 ey_10 => ?_)
          refine lv_aload_n hx hb dX7_tellsFast_87 rfl (lv_at hl 3 rfl) ?_
          refine va_get (D := D) (ci := 7) (v := .ref a_firsts) (C := RX7) (T := TX7) (N := 6) hx hb hts in_r_tells_X7 hown hK.1 hP 0 rfl rfl 3 (by decide) lk1 (fun _ h9 => h9) rfl dX7_tellsFast_88 ?_
          refine lv_iload_n hx hb dX7_tellsFast_91 rfl (lv_at hl 4 rfl) ?_
          refine va_iald hx hb hK.1 hP 2 0 rfl rfl (t_in (by omega) (by omega)) dX7_tellsFast_92 ?_
          refine lv_topi (fun y_11 ey_11 => ?_)
          refine lv_icmp_ge (tgt := 114) hx hb dX7_tellsFast_93 (by decide) (fun c_12 => ?_) (fun c_12 => ?_)
          · have tc_12 := t_le c_12
            refine lv_iload hx hb dX7_tellsFast_114 (lv_at hl 1 rfl) ?_
            refine lv_if_eq (tgt := 128) hx hb dX7_tellsFast_116 (by decide) (fun c_13 => ?_) (fun c_13 => ?_)
            · have tc_13 := t_eq c_13
              refine lv_iconst (v := 0) hx hb dX7_tellsFast_128 (by decide) ?_
              exact hret 0 _ _ (show ((0 : Int32).toInt = 0 ∨ (0 : Int32).toInt = 1) from by omega) rfl dX7_tellsFast_129
            · exact absurd c_13 (by decide)
          · have tc_12 := t_nle c_12
            refine lv_iload hx hb dX7_tellsFast_96 (lv_at hl 1 rfl) ?_
            refine lv_if_ne (tgt := 106) hx hb dX7_tellsFast_98 (by decide) (fun c_14 => ?_) (fun c_14 => ?_)
            · exact absurd c_14 (by decide)
            · have tc_14 := t_eq c_14
              refine lv_iload hx hb dX7_tellsFast_101 (lv_at hl 0 rfl) ?_
              refine lv_if_eq (tgt := 110) hx hb dX7_tellsFast_103 (by decide) (fun c_15 => ?_) (fun c_15 => ?_)
              · have tc_15 := t_eq c_15
                refine lv_iconst (v := 0) hx hb dX7_tellsFast_110 (by decide) ?_
                refine lv_goto (tgt := 129) hx hb dX7_tellsFast_111 (by decide) ?_
                exact hret 0 _ _ (show ((0 : Int32).toInt = 0 ∨ (0 : Int32).toInt = 1) from by omega) rfl dX7_tellsFast_129
              · exact absurd c_15 (by decide)
        · have tc_9 := t_nlt c_9
          refine lv_iconst (v := 1) hx hb dX7_tellsFast_74 (by decide) ?_
          refine lv_goto (tgt := 79) hx hb dX7_tellsFast_75 (by decide) ?_
          refine lv_istore (lv' := [(5, .int 1), (4, .int 0), (3, .int x_1), (0, .ref h), (1, .int i), (2, .int d)]) hx hb dX7_tellsFast_79 hl (by decide) rfl (fun ls hl => ?_)
          refine lv_aload_n hx hb dX7_tellsFast_81 rfl (lv_at hl 3 rfl) ?_
          refine va_get (D := D) (ci := 7) (v := .ref a_seconds) (C := RX7) (T := TX7) (N := 6) hx hb hts in_r_tells_X7 hown hK.1 hP 0 rfl rfl 4 (by decide) lk2 (fun _ h9 => h9) rfl dX7_tellsFast_82 ?_
          refine lv_iload_n hx hb dX7_tellsFast_85 rfl (lv_at hl 4 rfl) ?_
          refine va_iald hx hb hK.1 hP 3 0 rfl rfl (t_in (by omega) (by omega)) dX7_tellsFast_86 ?_
          refine lv_topi (fun y_16 ey_16 => ?_)
          refine lv_aload_n hx hb dX7_tellsFast_87 rfl (lv_at hl 3 rfl) ?_
          refine va_get (D := D) (ci := 7) (v := .ref a_firsts) (C := RX7) (T := TX7) (N := 6) hx hb hts in_r_tells_X7 hown hK.1 hP 0 rfl rfl 3 (by decide) lk1 (fun _ h9 => h9) rfl dX7_tellsFast_88 ?_
          refine lv_iload_n hx hb dX7_tellsFast_91 rfl (lv_at hl 4 rfl) ?_
          refine va_iald hx hb hK.1 hP 2 0 rfl rfl (t_in (by omega) (by omega)) dX7_tellsFast_92 ?_
          refine lv_topi (fun y_17 ey_17 => ?_)
          refine lv_icmp_ge (tgt := 114) hx hb dX7_tellsFast_93 (by decide) (fun c_18 => ?_) (fun c_18 => ?_)
          · have tc_18 := t_le c_18
            refine lv_iload hx hb dX7_tellsFast_114 (lv_at hl 1 rfl) ?_
            refine lv_if_eq (tgt := 128) hx hb dX7_tellsFast_116 (by decide) (fun c_19 => ?_) (fun c_19 => ?_)
            · have tc_19 := t_eq c_19
              refine lv_iconst (v := 0) hx hb dX7_tellsFast_128 (by decide) ?_
              exact hret 0 _ _ (show ((0 : Int32).toInt = 0 ∨ (0 : Int32).toInt = 1) from by omega) rfl dX7_tellsFast_129
            · exact absurd c_19 (by decide)
          · have tc_18 := t_nle c_18
            refine lv_iload hx hb dX7_tellsFast_96 (lv_at hl 1 rfl) ?_
            refine lv_if_ne (tgt := 106) hx hb dX7_tellsFast_98 (by decide) (fun c_20 => ?_) (fun c_20 => ?_)
            · exact absurd c_20 (by decide)
            · have tc_20 := t_eq c_20
              refine lv_iload hx hb dX7_tellsFast_101 (lv_at hl 0 rfl) ?_
              refine lv_if_eq (tgt := 110) hx hb dX7_tellsFast_103 (by decide) (fun c_21 => ?_) (fun c_21 => ?_)
              · exact absurd c_21 (by decide)
              · have tc_21 := t_neq c_21
                refine lv_iconst (v := 1) hx hb dX7_tellsFast_106 (by decide) ?_
                refine lv_goto (tgt := 129) hx hb dX7_tellsFast_107 (by decide) ?_
                exact hret 1 _ _ (show ((1 : Int32).toInt = 0 ∨ (1 : Int32).toInt = 1) from by omega) rfl dX7_tellsFast_129
      · have tc_7 := t_nlt c_7
        refine lv_iconst (v := 1) hx hb dX7_tellsFast_57 (by decide) ?_
        refine lv_goto (tgt := 62) hx hb dX7_tellsFast_58 (by decide) ?_
        refine lv_istore (lv' := [(4, .int 1), (3, .int x_1), (0, .ref h), (1, .int i), (2, .int d)]) hx hb dX7_tellsFast_62 hl (by decide) rfl (fun ls hl => ?_)
        refine lv_iload_n hx hb dX7_tellsFast_64 rfl (lv_at hl 1 rfl) ?_
        refine lv_aload_n hx hb dX7_tellsFast_65 rfl (lv_at hl 2 rfl) ?_
        refine va_get (D := D) (ci := 7) (v := .ref a_seconds) (C := RX7) (T := TX7) (N := 6) hx hb hts in_r_tells_X7 hown hK.1 hP 0 rfl rfl 4 (by decide) lk2 (fun _ h9 => h9) rfl dX7_tellsFast_66 ?_
        refine lv_iload_n hx hb dX7_tellsFast_69 rfl (lv_at hl 3 rfl) ?_
        refine va_iald hx hb hK.1 hP 3 0 rfl rfl (t_in (by omega) (by omega)) dX7_tellsFast_70 ?_
        refine lv_topi (fun y_22 ey_22 => ?_)
        refine lv_icmp_gt (tgt := 78) hx hb dX7_tellsFast_71 (by decide) (fun c_23 => ?_) (fun c_23 => ?_)
        · have tc_23 := t_lt c_23
          refine lv_iconst (v := 0) hx hb dX7_tellsFast_78 (by decide) ?_
          refine lv_istore (lv' := [(5, .int 0), (4, .int 1), (3, .int x_1), (0, .ref h), (1, .int i), (2, .int d)]) hx hb dX7_tellsFast_79 hl (by decide) rfl (fun ls hl => ?_)
          refine lv_aload_n hx hb dX7_tellsFast_81 rfl (lv_at hl 3 rfl) ?_
          refine va_get (D := D) (ci := 7) (v := .ref a_seconds) (C := RX7) (T := TX7) (N := 6) hx hb hts in_r_tells_X7 hown hK.1 hP 0 rfl rfl 4 (by decide) lk2 (fun _ h9 => h9) rfl dX7_tellsFast_82 ?_
          refine lv_iload_n hx hb dX7_tellsFast_85 rfl (lv_at hl 4 rfl) ?_
          refine va_iald hx hb hK.1 hP 3 0 rfl rfl (t_in (by omega) (by omega)) dX7_tellsFast_86 ?_
          refine lv_topi (fun y_24 ey_24 => ?_)
          refine lv_aload_n hx hb dX7_tellsFast_87 rfl (lv_at hl 3 rfl) ?_
          refine va_get (D := D) (ci := 7) (v := .ref a_firsts) (C := RX7) (T := TX7) (N := 6) hx hb hts in_r_tells_X7 hown hK.1 hP 0 rfl rfl 3 (by decide) lk1 (fun _ h9 => h9) rfl dX7_tellsFast_88 ?_
          refine lv_iload_n hx hb dX7_tellsFast_91 rfl (lv_at hl 4 rfl) ?_
          refine va_iald hx hb hK.1 hP 2 0 rfl rfl (t_in (by omega) (by omega)) dX7_tellsFast_92 ?_
          refine lv_topi (fun y_25 ey_25 => ?_)
          refine lv_icmp_ge (tgt := 114) hx hb dX7_tellsFast_93 (by decide) (fun c_26 => ?_) (fun c_26 => ?_)
          · have tc_26 := t_le c_26
            refine lv_iload hx hb dX7_tellsFast_114 (lv_at hl 1 rfl) ?_
            refine lv_if_eq (tgt := 128) hx hb dX7_tellsFast_116 (by decide) (fun c_27 => ?_) (fun c_27 => ?_)
            · exact absurd c_27 (by decide)
            · have tc_27 := t_neq c_27
              refine lv_iload hx hb dX7_tellsFast_119 (lv_at hl 0 rfl) ?_
              refine lv_if_eq (tgt := 128) hx hb dX7_tellsFast_121 (by decide) (fun c_28 => ?_) (fun c_28 => ?_)
              · have tc_28 := t_eq c_28
                refine lv_iconst (v := 0) hx hb dX7_tellsFast_128 (by decide) ?_
                exact hret 0 _ _ (show ((0 : Int32).toInt = 0 ∨ (0 : Int32).toInt = 1) from by omega) rfl dX7_tellsFast_129
              · exact absurd c_28 (by decide)
          · have tc_26 := t_nle c_26
            refine lv_iload hx hb dX7_tellsFast_96 (lv_at hl 1 rfl) ?_
            refine lv_if_ne (tgt := 106) hx hb dX7_tellsFast_98 (by decide) (fun c_29 => ?_) (fun c_29 => ?_)
            · have tc_29 := t_neq c_29
              refine lv_iconst (v := 1) hx hb dX7_tellsFast_106 (by decide) ?_
              refine lv_goto (tgt := 129) hx hb dX7_tellsFast_107 (by decide) ?_
              exact hret 1 _ _ (show ((1 : Int32).toInt = 0 ∨ (1 : Int32).toInt = 1) from by omega) rfl dX7_tellsFast_129
            · exact absurd c_29 (by decide)
        · have tc_23 := t_nlt c_23
          refine lv_iconst (v := 1) hx hb dX7_tellsFast_74 (by decide) ?_
          refine lv_goto (tgt := 79) hx hb dX7_tellsFast_75 (by decide) ?_
          refine lv_istore (lv' := [(5, .int 1), (4, .int 1), (3, .int x_1), (0, .ref h), (1, .int i), (2, .int d)]) hx hb dX7_tellsFast_79 hl (by decide) rfl (fun ls hl => ?_)
          refine lv_aload_n hx hb dX7_tellsFast_81 rfl (lv_at hl 3 rfl) ?_
          refine va_get (D := D) (ci := 7) (v := .ref a_seconds) (C := RX7) (T := TX7) (N := 6) hx hb hts in_r_tells_X7 hown hK.1 hP 0 rfl rfl 4 (by decide) lk2 (fun _ h9 => h9) rfl dX7_tellsFast_82 ?_
          refine lv_iload_n hx hb dX7_tellsFast_85 rfl (lv_at hl 4 rfl) ?_
          refine va_iald hx hb hK.1 hP 3 0 rfl rfl (t_in (by omega) (by omega)) dX7_tellsFast_86 ?_
          refine lv_topi (fun y_30 ey_30 => ?_)
          refine lv_aload_n hx hb dX7_tellsFast_87 rfl (lv_at hl 3 rfl) ?_
          refine va_get (D := D) (ci := 7) (v := .ref a_firsts) (C := RX7) (T := TX7) (N := 6) hx hb hts in_r_tells_X7 hown hK.1 hP 0 rfl rfl 3 (by decide) lk1 (fun _ h9 => h9) rfl dX7_tellsFast_88 ?_
          refine lv_iload_n hx hb dX7_tellsFast_91 rfl (lv_at hl 4 rfl) ?_
          refine va_iald hx hb hK.1 hP 2 0 rfl rfl (t_in (by omega) (by omega)) dX7_tellsFast_92 ?_
          refine lv_topi (fun y_31 ey_31 => ?_)
          refine lv_icmp_ge (tgt := 114) hx hb dX7_tellsFast_93 (by decide) (fun c_32 => ?_) (fun c_32 => ?_)
          · have tc_32 := t_le c_32
            refine lv_iload hx hb dX7_tellsFast_114 (lv_at hl 1 rfl) ?_
            refine lv_if_eq (tgt := 128) hx hb dX7_tellsFast_116 (by decide) (fun c_33 => ?_) (fun c_33 => ?_)
            · exact absurd c_33 (by decide)
            · have tc_33 := t_neq c_33
              refine lv_iload hx hb dX7_tellsFast_119 (lv_at hl 0 rfl) ?_
              refine lv_if_eq (tgt := 128) hx hb dX7_tellsFast_121 (by decide) (fun c_34 => ?_) (fun c_34 => ?_)
              · exact absurd c_34 (by decide)
              · have tc_34 := t_neq c_34
                refine lv_iconst (v := 1) hx hb dX7_tellsFast_124 (by decide) ?_
                refine lv_goto (tgt := 129) hx hb dX7_tellsFast_125 (by decide) ?_
                exact hret 1 _ _ (show ((1 : Int32).toInt = 0 ∨ (1 : Int32).toInt = 1) from by omega) rfl dX7_tellsFast_129
          · have tc_32 := t_nle c_32
            refine lv_iload hx hb dX7_tellsFast_96 (lv_at hl 1 rfl) ?_
            refine lv_if_ne (tgt := 106) hx hb dX7_tellsFast_98 (by decide) (fun c_35 => ?_) (fun c_35 => ?_)
            · have tc_35 := t_neq c_35
              refine lv_iconst (v := 1) hx hb dX7_tellsFast_106 (by decide) ?_
              refine lv_goto (tgt := 129) hx hb dX7_tellsFast_107 (by decide) ?_
              exact hret 1 _ _ (show ((1 : Int32).toInt = 0 ∨ (1 : Int32).toInt = 1) from by omega) rfl dX7_tellsFast_129
            · exact absurd c_35 (by decide)
    · have tc_5 := t_neq c_5
      refine lv_iconst (v := 0) hx hb dX7_tellsFast_45 (by decide) ?_
      exact hret 0 _ _ (show ((0 : Int32).toInt = 0 ∨ (0 : Int32).toInt = 1) from by omega) rfl dX7_tellsFast_46
  · have tc_3 := t_eq c_3
    refine lv_aload_n hx hb dX7_tellsFast_16 rfl (lv_at hl 1 rfl) ?_
    refine va_get (D := D) (ci := 7) (v := .ref a_firsts) (C := RX7) (T := TX7) (N := 6) hx hb hts in_r_tells_X7 hown hK.1 hP 0 rfl rfl 3 (by decide) lk1 (fun _ h9 => h9) rfl dX7_tellsFast_17 ?_
    refine lv_iload_n hx hb dX7_tellsFast_20 rfl (lv_at hl 2 rfl) ?_
    refine va_iald hx hb hK.1 hP 2 0 rfl rfl (t_in (by omega) (by omega)) dX7_tellsFast_21 ?_
    refine lv_topi (fun y_36 ey_36 => ?_)
    refine lv_iload_n hx hb dX7_tellsFast_22 rfl (lv_at hl 3 rfl) ?_
    refine lv_bipush (v := 7) hx hb dX7_tellsFast_23 (by decide) ?_
    refine lv_irem hx hb dX7_tellsFast_25 (by decide) ?_
    refine lv_topi (fun x_37 ex_37 => ?_)
    refine lv_icmp_ne (tgt := 33) hx hb dX7_tellsFast_26 (by decide) (fun c_38 => ?_) (fun c_38 => ?_)
    · have tc_38 := t_neq c_38
      refine lv_iconst (v := 0) hx hb dX7_tellsFast_33 (by decide) ?_
      exact hret 0 _ _ (show ((0 : Int32).toInt = 0 ∨ (0 : Int32).toInt = 1) from by omega) rfl dX7_tellsFast_34
    · have tc_38 := t_eq c_38
      refine lv_iconst (v := 1) hx hb dX7_tellsFast_29 (by decide) ?_
      refine lv_goto (tgt := 34) hx hb dX7_tellsFast_30 (by decide) ?_
      exact hret 1 _ _ (show ((1 : Int32).toInt = 0 ∨ (1 : Int32).toInt = 1) from by omega) rfl dX7_tellsFast_34

theorem in_r_isFast_X7 : ∀ w ∈ wsX70, w ∈ wsX7_isFast := tl_X7_isFast_X7
set_option maxHeartbeats 8000000 in
set_option maxRecDepth 100000 in
theorem r_isFast {l : Launch} {D : va_G} {cI cZ cB : ClassId} {h a_since a_sizes a_kinds a_firsts a_seconds : Nat} {v_size : Int32} {f_since f_sizes f_kinds f_firsts f_seconds : Nat → Int32} {d k : Int32} (hv_size0 : 0 ≤ v_size.toInt) (hv_size1 : v_size.toInt ≤ 10) (hs : InR f_sizes v_size.toInt 0 17) : Met l yX7_isFast wsX7_isFast ({ frames := 1, cells := 0, slots := 0, locals := 25 }) (RO D cI cZ cB [.ref h, .int d, .int k] [(h, .inr (7, [.ref a_since, .ref a_sizes, .ref a_kinds, .ref a_firsts, .ref a_seconds, .int v_size])), (a_since, .inl (cI, 10, .inl f_since)), (a_sizes, .inl (cI, 10, .inl f_sizes)), (a_kinds, .inl (cI, 160, .inl f_kinds)), (a_firsts, .inl (cI, 160, .inl f_firsts)), (a_seconds, .inl (cI, 160, .inl f_seconds))]) (vp_Si (fun r : Int32 => (v_size.toInt = 0 → r.toInt = 0) ∧ (r.toInt = 0 ∨ r.toInt = 1))) 0 0 (fun _ => False) := by
  refine ro_ret (cc := cX7_isFast) (maxL := 5) (ty := .boolean) (own := RX7) (by decide) rfl rfl (Nat.le_of_ble_eq_true rfl) ?_
  intro p e s m args below meth c Q S hret hP hK ls hl
  obtain ⟨hx, hb, hml, hown, hts⟩ := id S
  have hl : lv_has ls 5 [(0, .ref h), (1, .int d), (2, .int k)] := hl
  have kkm1 : (-1 : Int32).toInt = -1 := by decide
  have kk0 : (0 : Int32).toInt = 0 := by decide
  have kk1 : (1 : Int32).toInt = 1 := by decide
  have kk3 : (3 : Int32).toInt = 3 := by decide
  have kk16 : (16 : Int32).toInt = 16 := by decide
  have lk0 := hts (.fieldLink RX7 17 "AbbeyHours$Rules" "sizes" "[I") (List.mem_cons_of_mem _ (List.mem_append_left _ (List.mem_of_getElem? (i := 0) rfl)))
  refine lv_aload_n hx hb dX7_isFast_0 rfl (lv_at hl 0 rfl) ?_
  refine lv_iload_n hx hb dX7_isFast_1 rfl (lv_at hl 1 rfl) ?_
  have hPc := hP.sub (ws' := [(h, .inr (7, [.ref a_since, .ref a_sizes, .ref a_kinds, .ref a_firsts, .ref a_seconds, .int v_size])), (a_since, .inl (cI, 10, .inl f_since))]) [0, 1] rfl
  refine roV (As := [.int d]) (rest := []) S (r_inForce  (by omega) (by omega)) (cwV 1 hts gX7_isFast_X7_inForce rfl rfl rfl ⟨rfl, hd_X7_inForce⟩ ⟨Nat.le_of_ble_eq_true rfl, Nat.le_of_ble_eq_true rfl⟩) hK hPc (va_recv hK.1 hPc (ci := 7) (q0 := 0) rfl rfl) rfl hl.1 rfl (Nat.le_of_ble_eq_true rfl) dX7_isFast_2 ⟨Nat.le_of_ble_eq_true rfl, Nat.le_of_ble_eq_true rfl⟩ (fun r_ru hw_ru => ?_)
  have hw_ru : r_ru.toInt = -1 ∨ (0 ≤ r_ru.toInt ∧ r_ru.toInt < v_size.toInt) := hw_ru
  refine lv_istore_n (lv' := [(3, .int r_ru), (0, .ref h), (1, .int d), (2, .int k)]) hx hb dX7_isFast_5 rfl hl (by decide) rfl (fun ls hl => ?_)
  refine lv_iload_n hx hb dX7_isFast_6 rfl (lv_at hl 0 rfl) ?_
  refine lv_iconst (v := (-1)) hx hb dX7_isFast_7 (by decide) ?_
  refine lv_icmp_eq (tgt := 16) hx hb dX7_isFast_8 (by decide) (fun c_1 => ?_) (fun c_1 => ?_)
  · have tc_1 := t_eq c_1
    refine lv_iconst (v := 0) hx hb dX7_isFast_16 (by decide) ?_
    exact hret 0 _ _ (show (v_size.toInt = 0 → (0 : Int32).toInt = 0) ∧ ((0 : Int32).toInt = 0 ∨ (0 : Int32).toInt = 1) from by omega) rfl dX7_isFast_17
  · have tc_1 := t_neq c_1
    refine lv_iload_n hx hb dX7_isFast_11 rfl (lv_at hl 3 rfl) ?_
    refine lv_iconst (v := 3) hx hb dX7_isFast_12 (by decide) ?_
    refine lv_icmp_lt (tgt := 18) hx hb dX7_isFast_13 (by decide) (fun c_2 => ?_) (fun c_2 => ?_)
    · have tc_2 := t_lt c_2
      refine lv_iload_n hx hb dX7_isFast_18 rfl (lv_at hl 0 rfl) ?_
      refine lv_bipush (v := 16) hx hb dX7_isFast_19 (by decide) ?_
      refine lv_imul hx hb dX7_isFast_21 ?_
      refine lv_topi (fun x_3 ex_3 => ?_)
      first | have tx_3 := t_mulK kk16 ex_3 (by omega) (by omega) | skip
      refine lv_istore (lv' := [(4, .int x_3), (3, .int r_ru), (0, .ref h), (1, .int d), (2, .int k)]) hx hb dX7_isFast_22 hl (by decide) rfl (fun ls hl => ?_)
      have loop24 : ∀ (fuel : Nat) (j : Int32), 176 - j.toInt < (fuel : Int) → (16 * r_ru.toInt ≤ j.toInt) → (j.toInt ≤ 16 * r_ru.toInt + 16) → ∀ ls : Array Slot, lv_has ls 5 [(4, .int j), (3, .int r_ru), (0, .ref h), (1, .int d), (2, .int k)] → W p l e ({ frames := 1, cells := 0, slots := 0, locals := 25 } : Room) s m args below meth c s.heap [] 0 0 Q (F0 m 24 ls []) := by
        intro fuel
        induction fuel with
        | zero =>
          intro j hmu hj0 hj1 ls hl
          exfalso; omega
        | succ fuel ih24 =>
          intro j hmu hj0 hj1 ls hl
          refine lv_iload hx hb dX7_isFast_24 (lv_at hl 0 rfl) ?_
          refine lv_iload_n hx hb dX7_isFast_26 rfl (lv_at hl 1 rfl) ?_
          refine lv_bipush (v := 16) hx hb dX7_isFast_27 (by decide) ?_
          refine lv_imul hx hb dX7_isFast_29 ?_
          refine lv_topi (fun x_4 ex_4 => ?_)
          first | have tx_4 := t_mulK kk16 ex_4 (by omega) (by omega) | skip
          refine lv_aload_n hx hb dX7_isFast_30 rfl (lv_at hl 2 rfl) ?_
          refine va_get (D := D) (ci := 7) (v := .ref a_sizes) (C := RX7) (T := TX7) (N := 6) hx hb hts in_r_isFast_X7 hown hK.1 hP 0 rfl rfl 1 (by decide) lk0 (fun _ h9 => h9) rfl dX7_isFast_31 ?_
          refine lv_iload_n hx hb dX7_isFast_34 rfl (lv_at hl 1 rfl) ?_
          refine va_iald hx hb hK.1 hP 2 0 rfl rfl (t_in (by omega) (by omega)) dX7_isFast_35 ?_
          refine lv_topi (fun y_5 ey_5 => ?_)
          have hq := hs.get (i := r_ru) (by omega) (by omega)
          rw [← ey_5] at hq
          refine lv_iadd hx hb dX7_isFast_36 ?_
          refine lv_topi (fun x_6 ex_6 => ?_)
          first | have tx_6 := t_add ex_6 (by omega) (by omega) | skip
          refine lv_icmp_ge (tgt := 58) hx hb dX7_isFast_37 (by decide) (fun c_7 => ?_) (fun c_7 => ?_)
          · have tc_7 := t_le c_7
            refine lv_iconst (v := 0) hx hb dX7_isFast_58 (by decide) ?_
            exact hret 0 _ _ (show (v_size.toInt = 0 → (0 : Int32).toInt = 0) ∧ ((0 : Int32).toInt = 0 ∨ (0 : Int32).toInt = 1) from by omega) rfl dX7_isFast_59
          · have tc_7 := t_nle c_7
            refine lv_aload_n hx hb dX7_isFast_40 rfl (lv_at hl 2 rfl) ?_
            refine lv_iload hx hb dX7_isFast_41 (lv_at hl 0 rfl) ?_
            refine lv_iload_n hx hb dX7_isFast_43 rfl (lv_at hl 3 rfl) ?_
            have hPc := hP.sub (ws' := [(h, .inr (7, [.ref a_since, .ref a_sizes, .ref a_kinds, .ref a_firsts, .ref a_seconds, .int v_size])), (a_kinds, .inl (cI, 160, .inl f_kinds)), (a_firsts, .inl (cI, 160, .inl f_firsts)), (a_seconds, .inl (cI, 160, .inl f_seconds))]) [0, 3, 4, 5] rfl
            refine roV (As := [.int j, .int d]) (rest := []) S (r_tells  (by omega) (by omega)) (cwV 2 hts gX7_isFast_X7_tellsFast rfl rfl rfl ⟨rfl, hd_X7_tellsFast⟩ ⟨Nat.le_of_ble_eq_true rfl, Nat.le_of_ble_eq_true rfl⟩) hK hPc (va_recv hK.1 hPc (ci := 7) (q0 := 0) rfl rfl) rfl hl.1 rfl (Nat.le_of_ble_eq_true rfl) dX7_isFast_44 ⟨Nat.le_of_ble_eq_true rfl, Nat.le_of_ble_eq_true rfl⟩ (fun r_8 hw_8 => ?_)
            have hw_8 : (r_8.toInt = 0 ∨ r_8.toInt = 1) := hw_8
            refine lv_if_eq (tgt := 52) hx hb dX7_isFast_47 (by decide) (fun c_9 => ?_) (fun c_9 => ?_)
            · have tc_9 := t_eq c_9
              obtain ⟨x_10, ex_10⟩ : ∃ y : Int32, y = j + 1 := ⟨_, rfl⟩
              refine lv_iinc (v := x_10) (lv' := [(4, .int x_10), (3, .int r_ru), (0, .ref h), (1, .int d), (2, .int k)]) hx hb dX7_isFast_52 hl (k := 0) rfl (by rw [ex_10]; rfl) (by decide) rfl (fun ls hl => ?_)
              first | have tx_10 := t_add ex_10 (by omega) (by omega) | skip
              refine lv_goto (tgt := 24) hx hb dX7_isFast_55 (by decide) ?_
              exact ih24 x_10 (by omega) (by omega) (by omega) ls (lv_sub hl [0, 1, 2, 3, 4] rfl)
            · have tc_9 := t_neq c_9
              refine lv_iconst (v := 1) hx hb dX7_isFast_50 (by decide) ?_
              exact hret 1 _ _ (show (v_size.toInt = 0 → (1 : Int32).toInt = 0) ∧ ((1 : Int32).toInt = 0 ∨ (1 : Int32).toInt = 1) from by omega) rfl dX7_isFast_51
      exact loop24 ((176 - x_3.toInt).toNat + 1) x_3 (by omega) (by omega) (by omega) ls (lv_sub hl [0, 1, 2, 3, 4] rfl)
    · have tc_2 := t_nlt c_2
      refine lv_iconst (v := 0) hx hb dX7_isFast_16 (by decide) ?_
      exact hret 0 _ _ (show (v_size.toInt = 0 → (0 : Int32).toInt = 0) ∧ ((0 : Int32).toInt = 0 ∨ (0 : Int32).toInt = 1) from by omega) rfl dX7_isFast_17

theorem in_r_lastTold_X7 : ∀ w ∈ wsX70, w ∈ wsX7_lastTold := tl_X7_lastTold_X7
set_option maxHeartbeats 8000000 in
set_option maxRecDepth 100000 in
theorem r_lastTold {l : Launch} {D : va_G} {cI cZ cB : ClassId} {h a_since a_sizes a_kinds a_firsts a_seconds : Nat} {v_size : Int32} {f_since f_sizes f_kinds f_firsts f_seconds : Nat → Int32} {d k i : Int32} (hv_size0 : 0 ≤ v_size.toInt) (hv_size1 : v_size.toInt ≤ 10) (hs : InR f_sizes v_size.toInt 0 17) : Met l yX7_lastTold wsX7_lastTold ({ frames := 1, cells := 0, slots := 0, locals := 22 }) (RO D cI cZ cB [.ref h, .int d, .int k, .int i] [(h, .inr (7, [.ref a_since, .ref a_sizes, .ref a_kinds, .ref a_firsts, .ref a_seconds, .int v_size])), (a_since, .inl (cI, 10, .inl f_since)), (a_sizes, .inl (cI, 10, .inl f_sizes)), (a_kinds, .inl (cI, 160, .inl f_kinds)), (a_firsts, .inl (cI, 160, .inl f_firsts)), (a_seconds, .inl (cI, 160, .inl f_seconds))]) (vp_Si (fun r : Int32 => v_size.toInt = 0 → r.toInt = -1)) 0 0 (fun _ => False) := by
  refine ro_ret (cc := cX7_lastTold) (maxL := 6) (ty := .int) (own := RX7) (by decide) rfl rfl (Nat.le_of_ble_eq_true rfl) ?_
  intro p e s m args below meth c Q S hret hP hK ls hl
  obtain ⟨hx, hb, hml, hown, hts⟩ := id S
  have hl : lv_has ls 6 [(0, .ref h), (1, .int d), (2, .int k), (3, .int i)] := hl
  have kkm1 : (-1 : Int32).toInt = -1 := by decide
  have kk0 : (0 : Int32).toInt = 0 := by decide
  have kk1 : (1 : Int32).toInt = 1 := by decide
  have kk16 : (16 : Int32).toInt = 16 := by decide
  have lk0 := hts (.fieldLink RX7 17 "AbbeyHours$Rules" "sizes" "[I") (List.mem_cons_of_mem _ (List.mem_append_left _ (List.mem_of_getElem? (i := 0) rfl)))
  have lk1 := hts (.fieldLink RX7 20 "AbbeyHours$Rules" "kinds" "[I") (List.mem_cons_of_mem _ (List.mem_append_left _ (List.mem_of_getElem? (i := 1) rfl)))
  have lk2 := hts (.fieldLink RX7 23 "AbbeyHours$Rules" "firsts" "[I") (List.mem_cons_of_mem _ (List.mem_append_left _ (List.mem_of_getElem? (i := 2) rfl)))
  have lk3 := hts (.fieldLink RX7 26 "AbbeyHours$Rules" "seconds" "[I") (List.mem_cons_of_mem _ (List.mem_append_left _ (List.mem_of_getElem? (i := 3) rfl)))
  refine lv_aload_n hx hb dX7_lastTold_0 rfl (lv_at hl 0 rfl) ?_
  refine lv_iload_n hx hb dX7_lastTold_1 rfl (lv_at hl 1 rfl) ?_
  have hPc := hP.sub (ws' := [(h, .inr (7, [.ref a_since, .ref a_sizes, .ref a_kinds, .ref a_firsts, .ref a_seconds, .int v_size])), (a_since, .inl (cI, 10, .inl f_since))]) [0, 1] rfl
  refine roV (As := [.int d]) (rest := []) S (r_inForce  (by omega) (by omega)) (cwV 1 hts gX7_lastTold_X7_inForce rfl rfl rfl ⟨rfl, hd_X7_inForce⟩ ⟨Nat.le_of_ble_eq_true rfl, Nat.le_of_ble_eq_true rfl⟩) hK hPc (va_recv hK.1 hPc (ci := 7) (q0 := 0) rfl rfl) rfl hl.1 rfl (Nat.le_of_ble_eq_true rfl) dX7_lastTold_2 ⟨Nat.le_of_ble_eq_true rfl, Nat.le_of_ble_eq_true rfl⟩ (fun r_ru hw_ru => ?_)
  have hw_ru : r_ru.toInt = -1 ∨ (0 ≤ r_ru.toInt ∧ r_ru.toInt < v_size.toInt) := hw_ru
  refine lv_istore (lv' := [(4, .int r_ru), (0, .ref h), (1, .int d), (2, .int k), (3, .int i)]) hx hb dX7_lastTold_5 hl (by decide) rfl (fun ls hl => ?_)
  refine lv_iload hx hb dX7_lastTold_7 (lv_at hl 0 rfl) ?_
  refine lv_iconst (v := (-1)) hx hb dX7_lastTold_9 (by decide) ?_
  refine lv_icmp_ne (tgt := 15) hx hb dX7_lastTold_10 (by decide) (fun c_1 => ?_) (fun c_1 => ?_)
  · have tc_1 := t_neq c_1
    refine lv_iload hx hb dX7_lastTold_15 (lv_at hl 0 rfl) ?_
    refine lv_bipush (v := 16) hx hb dX7_lastTold_17 (by decide) ?_
    refine lv_imul hx hb dX7_lastTold_19 ?_
    refine lv_topi (fun x_2 ex_2 => ?_)
    first | have tx_2 := t_mulK kk16 ex_2 (by omega) (by omega) | skip
    refine lv_aload_n hx hb dX7_lastTold_20 rfl (lv_at hl 1 rfl) ?_
    refine va_get (D := D) (ci := 7) (v := .ref a_sizes) (C := RX7) (T := TX7) (N := 6) hx hb hts in_r_lastTold_X7 hown hK.1 hP 0 rfl rfl 1 (by decide) lk0 (fun _ h9 => h9) rfl dX7_lastTold_21 ?_
    refine lv_iload hx hb dX7_lastTold_24 (lv_at hl 0 rfl) ?_
    refine va_iald hx hb hK.1 hP 2 0 rfl rfl (t_in (by omega) (by omega)) dX7_lastTold_26 ?_
    refine lv_topi (fun y_3 ey_3 => ?_)
    have hq := hs.get (i := r_ru) (by omega) (by omega)
    rw [← ey_3] at hq
    refine lv_iadd hx hb dX7_lastTold_27 ?_
    refine lv_topi (fun x_4 ex_4 => ?_)
    first | have tx_4 := t_add ex_4 (by omega) (by omega) | skip
    refine lv_iconst (v := 1) hx hb dX7_lastTold_28 (by decide) ?_
    refine lv_isub hx hb dX7_lastTold_29 ?_
    refine lv_topi (fun x_5 ex_5 => ?_)
    first | have tx_5 := t_sub ex_5 (by omega) (by omega) | skip
    refine lv_istore (lv' := [(5, .int x_5), (4, .int r_ru), (0, .ref h), (1, .int d), (2, .int k), (3, .int i)]) hx hb dX7_lastTold_30 hl (by decide) rfl (fun ls hl => ?_)
    have loop32 : ∀ (fuel : Nat) (j : Int32), j.toInt + 2 < (fuel : Int) → (16 * r_ru.toInt - 1 ≤ j.toInt) → (j.toInt < 16 * r_ru.toInt + 16) → ∀ ls : Array Slot, lv_has ls 6 [(5, .int j), (4, .int r_ru), (0, .ref h), (1, .int d), (2, .int k), (3, .int i)] → W p l e ({ frames := 1, cells := 0, slots := 0, locals := 22 } : Room) s m args below meth c s.heap [] 0 0 Q (F0 m 32 ls []) := by
      intro fuel
      induction fuel with
      | zero =>
        intro j hmu hj0 hj1 ls hl
        exfalso; omega
      | succ fuel ih32 =>
        intro j hmu hj0 hj1 ls hl
        refine lv_iload hx hb dX7_lastTold_32 (lv_at hl 0 rfl) ?_
        refine lv_iload hx hb dX7_lastTold_34 (lv_at hl 1 rfl) ?_
        refine lv_bipush (v := 16) hx hb dX7_lastTold_36 (by decide) ?_
        refine lv_imul hx hb dX7_lastTold_38 ?_
        refine lv_topi (fun x_6 ex_6 => ?_)
        first | have tx_6 := t_mulK kk16 ex_6 (by omega) (by omega) | skip
        refine lv_icmp_lt (tgt := 78) hx hb dX7_lastTold_39 (by decide) (fun c_7 => ?_) (fun c_7 => ?_)
        · have tc_7 := t_lt c_7
          refine lv_iconst (v := (-1)) hx hb dX7_lastTold_78 (by decide) ?_
          exact hret (-1) _ _ (show v_size.toInt = 0 → (-1 : Int32).toInt = -1 from by omega) rfl dX7_lastTold_79
        · have tc_7 := t_nlt c_7
          refine lv_aload_n hx hb dX7_lastTold_42 rfl (lv_at hl 2 rfl) ?_
          refine va_get (D := D) (ci := 7) (v := .ref a_kinds) (C := RX7) (T := TX7) (N := 6) hx hb hts in_r_lastTold_X7 hown hK.1 hP 0 rfl rfl 2 (by decide) lk1 (fun _ h9 => h9) rfl dX7_lastTold_43 ?_
          refine lv_iload hx hb dX7_lastTold_46 (lv_at hl 0 rfl) ?_
          refine va_iald hx hb hK.1 hP 3 0 rfl rfl (t_in (by omega) (by omega)) dX7_lastTold_48 ?_
          refine lv_topi (fun y_8 ey_8 => ?_)
          refine lv_iload_n hx hb dX7_lastTold_49 rfl (lv_at hl 4 rfl) ?_
          refine lv_icmp_ne (tgt := 72) hx hb dX7_lastTold_50 (by decide) (fun c_9 => ?_) (fun c_9 => ?_)
          · have tc_9 := t_neq c_9
            obtain ⟨x_10, ex_10⟩ : ∃ y : Int32, y = j + (-1) := ⟨_, rfl⟩
            refine lv_iinc (v := x_10) (lv' := [(5, .int x_10), (4, .int r_ru), (0, .ref h), (1, .int d), (2, .int k), (3, .int i)]) hx hb dX7_lastTold_72 hl (k := 0) rfl (by rw [ex_10]; rfl) (by decide) rfl (fun ls hl => ?_)
            first | have tx_10 := t_add ex_10 (by omega) (by omega) | skip
            refine lv_goto (tgt := 32) hx hb dX7_lastTold_75 (by decide) ?_
            exact ih32 x_10 (by omega) (by omega) (by omega) ls (lv_sub hl [0, 1, 2, 3, 4, 5] rfl)
          · have tc_9 := t_eq c_9
            refine lv_aload_n hx hb dX7_lastTold_53 rfl (lv_at hl 2 rfl) ?_
            refine va_get (D := D) (ci := 7) (v := .ref a_firsts) (C := RX7) (T := TX7) (N := 6) hx hb hts in_r_lastTold_X7 hown hK.1 hP 0 rfl rfl 3 (by decide) lk2 (fun _ h9 => h9) rfl dX7_lastTold_54 ?_
            refine lv_iload hx hb dX7_lastTold_57 (lv_at hl 0 rfl) ?_
            refine va_iald hx hb hK.1 hP 4 0 rfl rfl (t_in (by omega) (by omega)) dX7_lastTold_59 ?_
            refine lv_topi (fun y_11 ey_11 => ?_)
            refine lv_iload_n hx hb dX7_lastTold_60 rfl (lv_at hl 5 rfl) ?_
            refine lv_icmp_ne (tgt := 72) hx hb dX7_lastTold_61 (by decide) (fun c_12 => ?_) (fun c_12 => ?_)
            · have tc_12 := t_neq c_12
              obtain ⟨x_13, ex_13⟩ : ∃ y : Int32, y = j + (-1) := ⟨_, rfl⟩
              refine lv_iinc (v := x_13) (lv' := [(5, .int x_13), (4, .int r_ru), (0, .ref h), (1, .int d), (2, .int k), (3, .int i)]) hx hb dX7_lastTold_72 hl (k := 0) rfl (by rw [ex_13]; rfl) (by decide) rfl (fun ls hl => ?_)
              first | have tx_13 := t_add ex_13 (by omega) (by omega) | skip
              refine lv_goto (tgt := 32) hx hb dX7_lastTold_75 (by decide) ?_
              exact ih32 x_13 (by omega) (by omega) (by omega) ls (lv_sub hl [0, 1, 2, 3, 4, 5] rfl)
            · have tc_12 := t_eq c_12
              refine lv_aload_n hx hb dX7_lastTold_64 rfl (lv_at hl 2 rfl) ?_
              refine va_get (D := D) (ci := 7) (v := .ref a_seconds) (C := RX7) (T := TX7) (N := 6) hx hb hts in_r_lastTold_X7 hown hK.1 hP 0 rfl rfl 4 (by decide) lk3 (fun _ h9 => h9) rfl dX7_lastTold_65 ?_
              refine lv_iload hx hb dX7_lastTold_68 (lv_at hl 0 rfl) ?_
              refine va_iald hx hb hK.1 hP 5 0 rfl rfl (t_in (by omega) (by omega)) dX7_lastTold_70 ?_
              refine lv_topi (fun y_14 ey_14 => ?_)
              exact hret y_14 _ _ (show v_size.toInt = 0 → y_14.toInt = -1 from by omega) rfl dX7_lastTold_71
    exact loop32 ((x_5.toInt + 2).toNat + 1) x_5 (by omega) (by omega) (by omega) ls (lv_sub hl [0, 1, 2, 3, 4, 5] rfl)
  · have tc_1 := t_eq c_1
    refine lv_iconst (v := (-1)) hx hb dX7_lastTold_13 (by decide) ?_
    exact hret (-1) _ _ (show v_size.toInt = 0 → (-1 : Int32).toInt = -1 from by omega) rfl dX7_lastTold_14

set_option maxHeartbeats 8000000 in
set_option maxRecDepth 100000 in
theorem r_head {l : Launch} {D : va_G} {cI cZ cB : ClassId} {h a_since a_sizes a_kinds a_firsts a_seconds : Nat} {v_size : Int32} {f_since f_sizes f_kinds f_firsts f_seconds : Nat → Int32} {d k : Int32} (hv_size0 : 0 ≤ v_size.toInt) (hv_size1 : v_size.toInt ≤ 10) (hs : InR f_sizes v_size.toInt 0 17) : Met l yX7_shareOfHead wsX7_shareOfHead ({ frames := 2, cells := 0, slots := 0, locals := 49 }) (RO D cI cZ cB [.ref h, .int d, .int k] [(h, .inr (7, [.ref a_since, .ref a_sizes, .ref a_kinds, .ref a_firsts, .ref a_seconds, .int v_size])), (a_since, .inl (cI, 10, .inl f_since)), (a_sizes, .inl (cI, 10, .inl f_sizes)), (a_kinds, .inl (cI, 160, .inl f_kinds)), (a_firsts, .inl (cI, 160, .inl f_firsts)), (a_seconds, .inl (cI, 160, .inl f_seconds))]) (vp_Si (fun r : Int32 => v_size.toInt = 0 → r.toInt = 2)) 0 0 (fun _ => False) := by
  refine ro_ret (cc := cX7_shareOfHead) (maxL := 4) (ty := .int) (own := RX7) (by decide) rfl rfl (Nat.le_of_ble_eq_true rfl) ?_
  intro p e s m args below meth c Q S hret hP hK ls hl
  obtain ⟨hx, hb, hml, hown, hts⟩ := id S
  have hl : lv_has ls 4 [(0, .ref h), (1, .int d), (2, .int k)] := hl
  have kkm1 : (-1 : Int32).toInt = -1 := by decide
  have kk0 : (0 : Int32).toInt = 0 := by decide
  have kk2 : (2 : Int32).toInt = 2 := by decide
  have kk3 : (3 : Int32).toInt = 3 := by decide
  have kk4 : (4 : Int32).toInt = 4 := by decide
  have kk6 : (6 : Int32).toInt = 6 := by decide
  refine lv_iconst (v := (-1)) hx hb dX7_shareOfHead_0 (by decide) ?_
  refine lv_istore_n (lv' := [(3, .int (-1)), (0, .ref h), (1, .int d), (2, .int k)]) hx hb dX7_shareOfHead_1 rfl hl (by decide) rfl (fun ls hl => ?_)
  refine lv_aload_n hx hb dX7_shareOfHead_2 rfl (lv_at hl 1 rfl) ?_
  refine lv_iload_n hx hb dX7_shareOfHead_3 rfl (lv_at hl 2 rfl) ?_
  refine lv_iload_n hx hb dX7_shareOfHead_4 rfl (lv_at hl 3 rfl) ?_
  have hPc := hP.sub (ws' := [(h, .inr (7, [.ref a_since, .ref a_sizes, .ref a_kinds, .ref a_firsts, .ref a_seconds, .int v_size])), (a_since, .inl (cI, 10, .inl f_since)), (a_sizes, .inl (cI, 10, .inl f_sizes)), (a_kinds, .inl (cI, 160, .inl f_kinds)), (a_firsts, .inl (cI, 160, .inl f_firsts)), (a_seconds, .inl (cI, 160, .inl f_seconds))]) [0, 1, 2, 3, 4, 5] rfl
  refine roV (As := [.int d, .int k]) (rest := []) S (r_isFast  (by omega) (by omega) (hs)) (cwV 2 hts gX7_shareOfHead_X7_isFast rfl rfl rfl ⟨rfl, hd_X7_isFast⟩ ⟨Nat.le_of_ble_eq_true rfl, Nat.le_of_ble_eq_true rfl⟩) hK hPc (va_recv hK.1 hPc (ci := 7) (q0 := 0) rfl rfl) rfl hl.1 rfl (Nat.le_of_ble_eq_true rfl) dX7_shareOfHead_5 ⟨Nat.le_of_ble_eq_true rfl, Nat.le_of_ble_eq_true rfl⟩ (fun r_1 hw_1 => ?_)
  have hw_1 : (v_size.toInt = 0 → r_1.toInt = 0) ∧ (r_1.toInt = 0 ∨ r_1.toInt = 1) := hw_1
  refine lv_if_eq (tgt := 19) hx hb dX7_shareOfHead_8 (by decide) (fun c_2 => ?_) (fun c_2 => ?_)
  · have tc_2 := t_eq c_2
    refine lv_iload_n hx hb dX7_shareOfHead_19 rfl (lv_at hl 0 rfl) ?_
    refine lv_iconst (v := (-1)) hx hb dX7_shareOfHead_20 (by decide) ?_
    refine lv_icmp_ne (tgt := 36) hx hb dX7_shareOfHead_21 (by decide) (fun c_3 => ?_) (fun c_3 => ?_)
    · exact absurd c_3 (by decide)
    · have tc_3 := t_eq c_3
      refine lv_iload_n hx hb dX7_shareOfHead_24 rfl (lv_at hl 3 rfl) ?_
      refine lv_if_le (tgt := 36) hx hb dX7_shareOfHead_25 (by decide) (fun c_4 => ?_) (fun c_4 => ?_)
      · have tc_4 := t_le c_4
        refine lv_iload_n hx hb dX7_shareOfHead_36 rfl (lv_at hl 0 rfl) ?_
        refine lv_iconst (v := (-1)) hx hb dX7_shareOfHead_37 (by decide) ?_
        refine lv_icmp_ne (tgt := 50) hx hb dX7_shareOfHead_38 (by decide) (fun c_5 => ?_) (fun c_5 => ?_)
        · exact absurd c_5 (by decide)
        · have tc_5 := t_eq c_5
          refine lv_aload_n hx hb dX7_shareOfHead_41 rfl (lv_at hl 1 rfl) ?_
          refine lv_iload_n hx hb dX7_shareOfHead_42 rfl (lv_at hl 2 rfl) ?_
          refine lv_bipush (v := 6) hx hb dX7_shareOfHead_43 (by decide) ?_
          refine lv_iconst (v := 0) hx hb dX7_shareOfHead_45 (by decide) ?_
          have hPc := hP.sub (ws' := [(h, .inr (7, [.ref a_since, .ref a_sizes, .ref a_kinds, .ref a_firsts, .ref a_seconds, .int v_size])), (a_since, .inl (cI, 10, .inl f_since)), (a_sizes, .inl (cI, 10, .inl f_sizes)), (a_kinds, .inl (cI, 160, .inl f_kinds)), (a_firsts, .inl (cI, 160, .inl f_firsts)), (a_seconds, .inl (cI, 160, .inl f_seconds))]) [0, 1, 2, 3, 4, 5] rfl
          refine roV (As := [.int d, .int 6, .int 0]) (rest := []) S (r_lastTold  (by omega) (by omega) (hs)) (cwV 3 hts gX7_shareOfHead_X7_lastTold rfl rfl rfl ⟨rfl, hd_X7_lastTold⟩ ⟨Nat.le_of_ble_eq_true rfl, Nat.le_of_ble_eq_true rfl⟩) hK hPc (va_recv hK.1 hPc (ci := 7) (q0 := 0) rfl rfl) rfl hl.1 rfl (Nat.le_of_ble_eq_true rfl) dX7_shareOfHead_46 ⟨Nat.le_of_ble_eq_true rfl, Nat.le_of_ble_eq_true rfl⟩ (fun r_6 hw_6 => ?_)
          have hw_6 : v_size.toInt = 0 → r_6.toInt = -1 := hw_6
          refine lv_istore_n (lv' := [(3, .int r_6), (0, .ref h), (1, .int d), (2, .int k)]) hx hb dX7_shareOfHead_49 rfl hl (by decide) rfl (fun ls hl => ?_)
          refine lv_iload_n hx hb dX7_shareOfHead_50 rfl (lv_at hl 0 rfl) ?_
          refine lv_iconst (v := (-1)) hx hb dX7_shareOfHead_51 (by decide) ?_
          refine lv_icmp_ne (tgt := 59) hx hb dX7_shareOfHead_52 (by decide) (fun c_7 => ?_) (fun c_7 => ?_)
          · have tc_7 := t_neq c_7
            refine lv_iload_n hx hb dX7_shareOfHead_59 rfl (lv_at hl 0 rfl) ?_
            exact hret r_6 _ _ (show v_size.toInt = 0 → r_6.toInt = 2 from by omega) rfl dX7_shareOfHead_60
          · have tc_7 := t_eq c_7
            refine lv_iconst (v := 2) hx hb dX7_shareOfHead_55 (by decide) ?_
            refine lv_goto (tgt := 60) hx hb dX7_shareOfHead_56 (by decide) ?_
            exact hret 2 _ _ (show v_size.toInt = 0 → (2 : Int32).toInt = 2 from by omega) rfl dX7_shareOfHead_60
      · have tc_4 := t_nle c_4
        refine lv_aload_n hx hb dX7_shareOfHead_28 rfl (lv_at hl 1 rfl) ?_
        refine lv_iload_n hx hb dX7_shareOfHead_29 rfl (lv_at hl 2 rfl) ?_
        refine lv_iconst (v := 4) hx hb dX7_shareOfHead_30 (by decide) ?_
        refine lv_iload_n hx hb dX7_shareOfHead_31 rfl (lv_at hl 3 rfl) ?_
        have hPc := hP.sub (ws' := [(h, .inr (7, [.ref a_since, .ref a_sizes, .ref a_kinds, .ref a_firsts, .ref a_seconds, .int v_size])), (a_since, .inl (cI, 10, .inl f_since)), (a_sizes, .inl (cI, 10, .inl f_sizes)), (a_kinds, .inl (cI, 160, .inl f_kinds)), (a_firsts, .inl (cI, 160, .inl f_firsts)), (a_seconds, .inl (cI, 160, .inl f_seconds))]) [0, 1, 2, 3, 4, 5] rfl
        refine roV (As := [.int d, .int 4, .int k]) (rest := []) S (r_lastTold  (by omega) (by omega) (hs)) (cwV 3 hts gX7_shareOfHead_X7_lastTold rfl rfl rfl ⟨rfl, hd_X7_lastTold⟩ ⟨Nat.le_of_ble_eq_true rfl, Nat.le_of_ble_eq_true rfl⟩) hK hPc (va_recv hK.1 hPc (ci := 7) (q0 := 0) rfl rfl) rfl hl.1 rfl (Nat.le_of_ble_eq_true rfl) dX7_shareOfHead_32 ⟨Nat.le_of_ble_eq_true rfl, Nat.le_of_ble_eq_true rfl⟩ (fun r_8 hw_8 => ?_)
        have hw_8 : v_size.toInt = 0 → r_8.toInt = -1 := hw_8
        refine lv_istore_n (lv' := [(3, .int r_8), (0, .ref h), (1, .int d), (2, .int k)]) hx hb dX7_shareOfHead_35 rfl hl (by decide) rfl (fun ls hl => ?_)
        refine lv_iload_n hx hb dX7_shareOfHead_36 rfl (lv_at hl 0 rfl) ?_
        refine lv_iconst (v := (-1)) hx hb dX7_shareOfHead_37 (by decide) ?_
        refine lv_icmp_ne (tgt := 50) hx hb dX7_shareOfHead_38 (by decide) (fun c_9 => ?_) (fun c_9 => ?_)
        · have tc_9 := t_neq c_9
          refine lv_iload_n hx hb dX7_shareOfHead_50 rfl (lv_at hl 0 rfl) ?_
          refine lv_iconst (v := (-1)) hx hb dX7_shareOfHead_51 (by decide) ?_
          refine lv_icmp_ne (tgt := 59) hx hb dX7_shareOfHead_52 (by decide) (fun c_10 => ?_) (fun c_10 => ?_)
          · have tc_10 := t_neq c_10
            refine lv_iload_n hx hb dX7_shareOfHead_59 rfl (lv_at hl 0 rfl) ?_
            exact hret r_8 _ _ (show v_size.toInt = 0 → r_8.toInt = 2 from by omega) rfl dX7_shareOfHead_60
          · have tc_10 := t_eq c_10
            refine lv_iconst (v := 2) hx hb dX7_shareOfHead_55 (by decide) ?_
            refine lv_goto (tgt := 60) hx hb dX7_shareOfHead_56 (by decide) ?_
            exact hret 2 _ _ (show v_size.toInt = 0 → (2 : Int32).toInt = 2 from by omega) rfl dX7_shareOfHead_60
        · have tc_9 := t_eq c_9
          refine lv_aload_n hx hb dX7_shareOfHead_41 rfl (lv_at hl 1 rfl) ?_
          refine lv_iload_n hx hb dX7_shareOfHead_42 rfl (lv_at hl 2 rfl) ?_
          refine lv_bipush (v := 6) hx hb dX7_shareOfHead_43 (by decide) ?_
          refine lv_iconst (v := 0) hx hb dX7_shareOfHead_45 (by decide) ?_
          have hPc := hP.sub (ws' := [(h, .inr (7, [.ref a_since, .ref a_sizes, .ref a_kinds, .ref a_firsts, .ref a_seconds, .int v_size])), (a_since, .inl (cI, 10, .inl f_since)), (a_sizes, .inl (cI, 10, .inl f_sizes)), (a_kinds, .inl (cI, 160, .inl f_kinds)), (a_firsts, .inl (cI, 160, .inl f_firsts)), (a_seconds, .inl (cI, 160, .inl f_seconds))]) [0, 1, 2, 3, 4, 5] rfl
          refine roV (As := [.int d, .int 6, .int 0]) (rest := []) S (r_lastTold  (by omega) (by omega) (hs)) (cwV 3 hts gX7_shareOfHead_X7_lastTold rfl rfl rfl ⟨rfl, hd_X7_lastTold⟩ ⟨Nat.le_of_ble_eq_true rfl, Nat.le_of_ble_eq_true rfl⟩) hK hPc (va_recv hK.1 hPc (ci := 7) (q0 := 0) rfl rfl) rfl hl.1 rfl (Nat.le_of_ble_eq_true rfl) dX7_shareOfHead_46 ⟨Nat.le_of_ble_eq_true rfl, Nat.le_of_ble_eq_true rfl⟩ (fun r_11 hw_11 => ?_)
          have hw_11 : v_size.toInt = 0 → r_11.toInt = -1 := hw_11
          refine lv_istore_n (lv' := [(3, .int r_11), (0, .ref h), (1, .int d), (2, .int k)]) hx hb dX7_shareOfHead_49 rfl hl (by decide) rfl (fun ls hl => ?_)
          refine lv_iload_n hx hb dX7_shareOfHead_50 rfl (lv_at hl 0 rfl) ?_
          refine lv_iconst (v := (-1)) hx hb dX7_shareOfHead_51 (by decide) ?_
          refine lv_icmp_ne (tgt := 59) hx hb dX7_shareOfHead_52 (by decide) (fun c_12 => ?_) (fun c_12 => ?_)
          · have tc_12 := t_neq c_12
            refine lv_iload_n hx hb dX7_shareOfHead_59 rfl (lv_at hl 0 rfl) ?_
            exact hret r_11 _ _ (show v_size.toInt = 0 → r_11.toInt = 2 from by omega) rfl dX7_shareOfHead_60
          · have tc_12 := t_eq c_12
            refine lv_iconst (v := 2) hx hb dX7_shareOfHead_55 (by decide) ?_
            refine lv_goto (tgt := 60) hx hb dX7_shareOfHead_56 (by decide) ?_
            exact hret 2 _ _ (show v_size.toInt = 0 → (2 : Int32).toInt = 2 from by omega) rfl dX7_shareOfHead_60
  · have tc_2 := t_neq c_2
    refine lv_aload_n hx hb dX7_shareOfHead_11 rfl (lv_at hl 1 rfl) ?_
    refine lv_iload_n hx hb dX7_shareOfHead_12 rfl (lv_at hl 2 rfl) ?_
    refine lv_iconst (v := 3) hx hb dX7_shareOfHead_13 (by decide) ?_
    refine lv_iconst (v := 0) hx hb dX7_shareOfHead_14 (by decide) ?_
    have hPc := hP.sub (ws' := [(h, .inr (7, [.ref a_since, .ref a_sizes, .ref a_kinds, .ref a_firsts, .ref a_seconds, .int v_size])), (a_since, .inl (cI, 10, .inl f_since)), (a_sizes, .inl (cI, 10, .inl f_sizes)), (a_kinds, .inl (cI, 160, .inl f_kinds)), (a_firsts, .inl (cI, 160, .inl f_firsts)), (a_seconds, .inl (cI, 160, .inl f_seconds))]) [0, 1, 2, 3, 4, 5] rfl
    refine roV (As := [.int d, .int 3, .int 0]) (rest := []) S (r_lastTold  (by omega) (by omega) (hs)) (cwV 3 hts gX7_shareOfHead_X7_lastTold rfl rfl rfl ⟨rfl, hd_X7_lastTold⟩ ⟨Nat.le_of_ble_eq_true rfl, Nat.le_of_ble_eq_true rfl⟩) hK hPc (va_recv hK.1 hPc (ci := 7) (q0 := 0) rfl rfl) rfl hl.1 rfl (Nat.le_of_ble_eq_true rfl) dX7_shareOfHead_15 ⟨Nat.le_of_ble_eq_true rfl, Nat.le_of_ble_eq_true rfl⟩ (fun r_13 hw_13 => ?_)
    have hw_13 : v_size.toInt = 0 → r_13.toInt = -1 := hw_13
    refine lv_istore_n (lv' := [(3, .int r_13), (0, .ref h), (1, .int d), (2, .int k)]) hx hb dX7_shareOfHead_18 rfl hl (by decide) rfl (fun ls hl => ?_)
    refine lv_iload_n hx hb dX7_shareOfHead_19 rfl (lv_at hl 0 rfl) ?_
    refine lv_iconst (v := (-1)) hx hb dX7_shareOfHead_20 (by decide) ?_
    refine lv_icmp_ne (tgt := 36) hx hb dX7_shareOfHead_21 (by decide) (fun c_14 => ?_) (fun c_14 => ?_)
    · have tc_14 := t_neq c_14
      refine lv_iload_n hx hb dX7_shareOfHead_36 rfl (lv_at hl 0 rfl) ?_
      refine lv_iconst (v := (-1)) hx hb dX7_shareOfHead_37 (by decide) ?_
      refine lv_icmp_ne (tgt := 50) hx hb dX7_shareOfHead_38 (by decide) (fun c_15 => ?_) (fun c_15 => ?_)
      · have tc_15 := t_neq c_15
        refine lv_iload_n hx hb dX7_shareOfHead_50 rfl (lv_at hl 0 rfl) ?_
        refine lv_iconst (v := (-1)) hx hb dX7_shareOfHead_51 (by decide) ?_
        refine lv_icmp_ne (tgt := 59) hx hb dX7_shareOfHead_52 (by decide) (fun c_16 => ?_) (fun c_16 => ?_)
        · have tc_16 := t_neq c_16
          refine lv_iload_n hx hb dX7_shareOfHead_59 rfl (lv_at hl 0 rfl) ?_
          exact hret r_13 _ _ (show v_size.toInt = 0 → r_13.toInt = 2 from by omega) rfl dX7_shareOfHead_60
        · have tc_16 := t_eq c_16
          refine lv_iconst (v := 2) hx hb dX7_shareOfHead_55 (by decide) ?_
          refine lv_goto (tgt := 60) hx hb dX7_shareOfHead_56 (by decide) ?_
          exact hret 2 _ _ (show v_size.toInt = 0 → (2 : Int32).toInt = 2 from by omega) rfl dX7_shareOfHead_60
      · have tc_15 := t_eq c_15
        refine lv_aload_n hx hb dX7_shareOfHead_41 rfl (lv_at hl 1 rfl) ?_
        refine lv_iload_n hx hb dX7_shareOfHead_42 rfl (lv_at hl 2 rfl) ?_
        refine lv_bipush (v := 6) hx hb dX7_shareOfHead_43 (by decide) ?_
        refine lv_iconst (v := 0) hx hb dX7_shareOfHead_45 (by decide) ?_
        have hPc := hP.sub (ws' := [(h, .inr (7, [.ref a_since, .ref a_sizes, .ref a_kinds, .ref a_firsts, .ref a_seconds, .int v_size])), (a_since, .inl (cI, 10, .inl f_since)), (a_sizes, .inl (cI, 10, .inl f_sizes)), (a_kinds, .inl (cI, 160, .inl f_kinds)), (a_firsts, .inl (cI, 160, .inl f_firsts)), (a_seconds, .inl (cI, 160, .inl f_seconds))]) [0, 1, 2, 3, 4, 5] rfl
        refine roV (As := [.int d, .int 6, .int 0]) (rest := []) S (r_lastTold  (by omega) (by omega) (hs)) (cwV 3 hts gX7_shareOfHead_X7_lastTold rfl rfl rfl ⟨rfl, hd_X7_lastTold⟩ ⟨Nat.le_of_ble_eq_true rfl, Nat.le_of_ble_eq_true rfl⟩) hK hPc (va_recv hK.1 hPc (ci := 7) (q0 := 0) rfl rfl) rfl hl.1 rfl (Nat.le_of_ble_eq_true rfl) dX7_shareOfHead_46 ⟨Nat.le_of_ble_eq_true rfl, Nat.le_of_ble_eq_true rfl⟩ (fun r_17 hw_17 => ?_)
        have hw_17 : v_size.toInt = 0 → r_17.toInt = -1 := hw_17
        refine lv_istore_n (lv' := [(3, .int r_17), (0, .ref h), (1, .int d), (2, .int k)]) hx hb dX7_shareOfHead_49 rfl hl (by decide) rfl (fun ls hl => ?_)
        refine lv_iload_n hx hb dX7_shareOfHead_50 rfl (lv_at hl 0 rfl) ?_
        refine lv_iconst (v := (-1)) hx hb dX7_shareOfHead_51 (by decide) ?_
        refine lv_icmp_ne (tgt := 59) hx hb dX7_shareOfHead_52 (by decide) (fun c_18 => ?_) (fun c_18 => ?_)
        · have tc_18 := t_neq c_18
          refine lv_iload_n hx hb dX7_shareOfHead_59 rfl (lv_at hl 0 rfl) ?_
          exact hret r_17 _ _ (show v_size.toInt = 0 → r_17.toInt = 2 from by omega) rfl dX7_shareOfHead_60
        · have tc_18 := t_eq c_18
          refine lv_iconst (v := 2) hx hb dX7_shareOfHead_55 (by decide) ?_
          refine lv_goto (tgt := 60) hx hb dX7_shareOfHead_56 (by decide) ?_
          exact hret 2 _ _ (show v_size.toInt = 0 → (2 : Int32).toInt = 2 from by omega) rfl dX7_shareOfHead_60
    · have tc_14 := t_eq c_14
      refine lv_iload_n hx hb dX7_shareOfHead_24 rfl (lv_at hl 3 rfl) ?_
      refine lv_if_le (tgt := 36) hx hb dX7_shareOfHead_25 (by decide) (fun c_19 => ?_) (fun c_19 => ?_)
      · have tc_19 := t_le c_19
        refine lv_iload_n hx hb dX7_shareOfHead_36 rfl (lv_at hl 0 rfl) ?_
        refine lv_iconst (v := (-1)) hx hb dX7_shareOfHead_37 (by decide) ?_
        refine lv_icmp_ne (tgt := 50) hx hb dX7_shareOfHead_38 (by decide) (fun c_20 => ?_) (fun c_20 => ?_)
        · have tc_20 := t_neq c_20
          refine lv_iload_n hx hb dX7_shareOfHead_50 rfl (lv_at hl 0 rfl) ?_
          refine lv_iconst (v := (-1)) hx hb dX7_shareOfHead_51 (by decide) ?_
          refine lv_icmp_ne (tgt := 59) hx hb dX7_shareOfHead_52 (by decide) (fun c_21 => ?_) (fun c_21 => ?_)
          · have tc_21 := t_neq c_21
            refine lv_iload_n hx hb dX7_shareOfHead_59 rfl (lv_at hl 0 rfl) ?_
            exact hret r_13 _ _ (show v_size.toInt = 0 → r_13.toInt = 2 from by omega) rfl dX7_shareOfHead_60
          · have tc_21 := t_eq c_21
            refine lv_iconst (v := 2) hx hb dX7_shareOfHead_55 (by decide) ?_
            refine lv_goto (tgt := 60) hx hb dX7_shareOfHead_56 (by decide) ?_
            exact hret 2 _ _ (show v_size.toInt = 0 → (2 : Int32).toInt = 2 from by omega) rfl dX7_shareOfHead_60
        · have tc_20 := t_eq c_20
          refine lv_aload_n hx hb dX7_shareOfHead_41 rfl (lv_at hl 1 rfl) ?_
          refine lv_iload_n hx hb dX7_shareOfHead_42 rfl (lv_at hl 2 rfl) ?_
          refine lv_bipush (v := 6) hx hb dX7_shareOfHead_43 (by decide) ?_
          refine lv_iconst (v := 0) hx hb dX7_shareOfHead_45 (by decide) ?_
          have hPc := hP.sub (ws' := [(h, .inr (7, [.ref a_since, .ref a_sizes, .ref a_kinds, .ref a_firsts, .ref a_seconds, .int v_size])), (a_since, .inl (cI, 10, .inl f_since)), (a_sizes, .inl (cI, 10, .inl f_sizes)), (a_kinds, .inl (cI, 160, .inl f_kinds)), (a_firsts, .inl (cI, 160, .inl f_firsts)), (a_seconds, .inl (cI, 160, .inl f_seconds))]) [0, 1, 2, 3, 4, 5] rfl
          refine roV (As := [.int d, .int 6, .int 0]) (rest := []) S (r_lastTold  (by omega) (by omega) (hs)) (cwV 3 hts gX7_shareOfHead_X7_lastTold rfl rfl rfl ⟨rfl, hd_X7_lastTold⟩ ⟨Nat.le_of_ble_eq_true rfl, Nat.le_of_ble_eq_true rfl⟩) hK hPc (va_recv hK.1 hPc (ci := 7) (q0 := 0) rfl rfl) rfl hl.1 rfl (Nat.le_of_ble_eq_true rfl) dX7_shareOfHead_46 ⟨Nat.le_of_ble_eq_true rfl, Nat.le_of_ble_eq_true rfl⟩ (fun r_22 hw_22 => ?_)
          have hw_22 : v_size.toInt = 0 → r_22.toInt = -1 := hw_22
          refine lv_istore_n (lv' := [(3, .int r_22), (0, .ref h), (1, .int d), (2, .int k)]) hx hb dX7_shareOfHead_49 rfl hl (by decide) rfl (fun ls hl => ?_)
          refine lv_iload_n hx hb dX7_shareOfHead_50 rfl (lv_at hl 0 rfl) ?_
          refine lv_iconst (v := (-1)) hx hb dX7_shareOfHead_51 (by decide) ?_
          refine lv_icmp_ne (tgt := 59) hx hb dX7_shareOfHead_52 (by decide) (fun c_23 => ?_) (fun c_23 => ?_)
          · have tc_23 := t_neq c_23
            refine lv_iload_n hx hb dX7_shareOfHead_59 rfl (lv_at hl 0 rfl) ?_
            exact hret r_22 _ _ (show v_size.toInt = 0 → r_22.toInt = 2 from by omega) rfl dX7_shareOfHead_60
          · have tc_23 := t_eq c_23
            refine lv_iconst (v := 2) hx hb dX7_shareOfHead_55 (by decide) ?_
            refine lv_goto (tgt := 60) hx hb dX7_shareOfHead_56 (by decide) ?_
            exact hret 2 _ _ (show v_size.toInt = 0 → (2 : Int32).toInt = 2 from by omega) rfl dX7_shareOfHead_60
      · have tc_19 := t_nle c_19
        refine lv_aload_n hx hb dX7_shareOfHead_28 rfl (lv_at hl 1 rfl) ?_
        refine lv_iload_n hx hb dX7_shareOfHead_29 rfl (lv_at hl 2 rfl) ?_
        refine lv_iconst (v := 4) hx hb dX7_shareOfHead_30 (by decide) ?_
        refine lv_iload_n hx hb dX7_shareOfHead_31 rfl (lv_at hl 3 rfl) ?_
        have hPc := hP.sub (ws' := [(h, .inr (7, [.ref a_since, .ref a_sizes, .ref a_kinds, .ref a_firsts, .ref a_seconds, .int v_size])), (a_since, .inl (cI, 10, .inl f_since)), (a_sizes, .inl (cI, 10, .inl f_sizes)), (a_kinds, .inl (cI, 160, .inl f_kinds)), (a_firsts, .inl (cI, 160, .inl f_firsts)), (a_seconds, .inl (cI, 160, .inl f_seconds))]) [0, 1, 2, 3, 4, 5] rfl
        refine roV (As := [.int d, .int 4, .int k]) (rest := []) S (r_lastTold  (by omega) (by omega) (hs)) (cwV 3 hts gX7_shareOfHead_X7_lastTold rfl rfl rfl ⟨rfl, hd_X7_lastTold⟩ ⟨Nat.le_of_ble_eq_true rfl, Nat.le_of_ble_eq_true rfl⟩) hK hPc (va_recv hK.1 hPc (ci := 7) (q0 := 0) rfl rfl) rfl hl.1 rfl (Nat.le_of_ble_eq_true rfl) dX7_shareOfHead_32 ⟨Nat.le_of_ble_eq_true rfl, Nat.le_of_ble_eq_true rfl⟩ (fun r_24 hw_24 => ?_)
        have hw_24 : v_size.toInt = 0 → r_24.toInt = -1 := hw_24
        refine lv_istore_n (lv' := [(3, .int r_24), (0, .ref h), (1, .int d), (2, .int k)]) hx hb dX7_shareOfHead_35 rfl hl (by decide) rfl (fun ls hl => ?_)
        refine lv_iload_n hx hb dX7_shareOfHead_36 rfl (lv_at hl 0 rfl) ?_
        refine lv_iconst (v := (-1)) hx hb dX7_shareOfHead_37 (by decide) ?_
        refine lv_icmp_ne (tgt := 50) hx hb dX7_shareOfHead_38 (by decide) (fun c_25 => ?_) (fun c_25 => ?_)
        · have tc_25 := t_neq c_25
          refine lv_iload_n hx hb dX7_shareOfHead_50 rfl (lv_at hl 0 rfl) ?_
          refine lv_iconst (v := (-1)) hx hb dX7_shareOfHead_51 (by decide) ?_
          refine lv_icmp_ne (tgt := 59) hx hb dX7_shareOfHead_52 (by decide) (fun c_26 => ?_) (fun c_26 => ?_)
          · have tc_26 := t_neq c_26
            refine lv_iload_n hx hb dX7_shareOfHead_59 rfl (lv_at hl 0 rfl) ?_
            exact hret r_24 _ _ (show v_size.toInt = 0 → r_24.toInt = 2 from by omega) rfl dX7_shareOfHead_60
          · have tc_26 := t_eq c_26
            refine lv_iconst (v := 2) hx hb dX7_shareOfHead_55 (by decide) ?_
            refine lv_goto (tgt := 60) hx hb dX7_shareOfHead_56 (by decide) ?_
            exact hret 2 _ _ (show v_size.toInt = 0 → (2 : Int32).toInt = 2 from by omega) rfl dX7_shareOfHead_60
        · have tc_25 := t_eq c_25
          refine lv_aload_n hx hb dX7_shareOfHead_41 rfl (lv_at hl 1 rfl) ?_
          refine lv_iload_n hx hb dX7_shareOfHead_42 rfl (lv_at hl 2 rfl) ?_
          refine lv_bipush (v := 6) hx hb dX7_shareOfHead_43 (by decide) ?_
          refine lv_iconst (v := 0) hx hb dX7_shareOfHead_45 (by decide) ?_
          have hPc := hP.sub (ws' := [(h, .inr (7, [.ref a_since, .ref a_sizes, .ref a_kinds, .ref a_firsts, .ref a_seconds, .int v_size])), (a_since, .inl (cI, 10, .inl f_since)), (a_sizes, .inl (cI, 10, .inl f_sizes)), (a_kinds, .inl (cI, 160, .inl f_kinds)), (a_firsts, .inl (cI, 160, .inl f_firsts)), (a_seconds, .inl (cI, 160, .inl f_seconds))]) [0, 1, 2, 3, 4, 5] rfl
          refine roV (As := [.int d, .int 6, .int 0]) (rest := []) S (r_lastTold  (by omega) (by omega) (hs)) (cwV 3 hts gX7_shareOfHead_X7_lastTold rfl rfl rfl ⟨rfl, hd_X7_lastTold⟩ ⟨Nat.le_of_ble_eq_true rfl, Nat.le_of_ble_eq_true rfl⟩) hK hPc (va_recv hK.1 hPc (ci := 7) (q0 := 0) rfl rfl) rfl hl.1 rfl (Nat.le_of_ble_eq_true rfl) dX7_shareOfHead_46 ⟨Nat.le_of_ble_eq_true rfl, Nat.le_of_ble_eq_true rfl⟩ (fun r_27 hw_27 => ?_)
          have hw_27 : v_size.toInt = 0 → r_27.toInt = -1 := hw_27
          refine lv_istore_n (lv' := [(3, .int r_27), (0, .ref h), (1, .int d), (2, .int k)]) hx hb dX7_shareOfHead_49 rfl hl (by decide) rfl (fun ls hl => ?_)
          refine lv_iload_n hx hb dX7_shareOfHead_50 rfl (lv_at hl 0 rfl) ?_
          refine lv_iconst (v := (-1)) hx hb dX7_shareOfHead_51 (by decide) ?_
          refine lv_icmp_ne (tgt := 59) hx hb dX7_shareOfHead_52 (by decide) (fun c_28 => ?_) (fun c_28 => ?_)
          · have tc_28 := t_neq c_28
            refine lv_iload_n hx hb dX7_shareOfHead_59 rfl (lv_at hl 0 rfl) ?_
            exact hret r_27 _ _ (show v_size.toInt = 0 → r_27.toInt = 2 from by omega) rfl dX7_shareOfHead_60
          · have tc_28 := t_eq c_28
            refine lv_iconst (v := 2) hx hb dX7_shareOfHead_55 (by decide) ?_
            refine lv_goto (tgt := 60) hx hb dX7_shareOfHead_56 (by decide) ?_
            exact hret 2 _ _ (show v_size.toInt = 0 → (2 : Int32).toInt = 2 from by omega) rfl dX7_shareOfHead_60

set_option maxHeartbeats 8000000 in
set_option maxRecDepth 100000 in
theorem r_guest {l : Launch} {D : va_G} {cI cZ cB : ClassId} {h a_since a_sizes a_kinds a_firsts a_seconds : Nat} {v_size : Int32} {f_since f_sizes f_kinds f_firsts f_seconds : Nat → Int32} {d : Int32} (hv_size0 : 0 ≤ v_size.toInt) (hv_size1 : v_size.toInt ≤ 10) (hs : InR f_sizes v_size.toInt 0 17) : Met l yX7_shareOfGuest wsX7_shareOfGuest ({ frames := 2, cells := 0, slots := 0, locals := 47 }) (RO D cI cZ cB [.ref h, .int d] [(h, .inr (7, [.ref a_since, .ref a_sizes, .ref a_kinds, .ref a_firsts, .ref a_seconds, .int v_size])), (a_since, .inl (cI, 10, .inl f_since)), (a_sizes, .inl (cI, 10, .inl f_sizes)), (a_kinds, .inl (cI, 160, .inl f_kinds)), (a_firsts, .inl (cI, 160, .inl f_firsts)), (a_seconds, .inl (cI, 160, .inl f_seconds))]) (vp_Si (fun r : Int32 => v_size.toInt = 0 → r.toInt = 3)) 0 0 (fun _ => False) := by
  refine ro_ret (cc := cX7_shareOfGuest) (maxL := 3) (ty := .int) (own := RX7) (by decide) rfl rfl (Nat.le_of_ble_eq_true rfl) ?_
  intro p e s m args below meth c Q S hret hP hK ls hl
  obtain ⟨hx, hb, hml, hown, hts⟩ := id S
  have hl : lv_has ls 3 [(0, .ref h), (1, .int d)] := hl
  have kkm1 : (-1 : Int32).toInt = -1 := by decide
  have kk0 : (0 : Int32).toInt = 0 := by decide
  have kk3 : (3 : Int32).toInt = 3 := by decide
  have kk5 : (5 : Int32).toInt = 5 := by decide
  refine lv_aload_n hx hb dX7_shareOfGuest_0 rfl (lv_at hl 0 rfl) ?_
  refine lv_iload_n hx hb dX7_shareOfGuest_1 rfl (lv_at hl 1 rfl) ?_
  refine lv_iconst (v := 5) hx hb dX7_shareOfGuest_2 (by decide) ?_
  refine lv_iconst (v := 0) hx hb dX7_shareOfGuest_3 (by decide) ?_
  have hPc := hP.sub (ws' := [(h, .inr (7, [.ref a_since, .ref a_sizes, .ref a_kinds, .ref a_firsts, .ref a_seconds, .int v_size])), (a_since, .inl (cI, 10, .inl f_since)), (a_sizes, .inl (cI, 10, .inl f_sizes)), (a_kinds, .inl (cI, 160, .inl f_kinds)), (a_firsts, .inl (cI, 160, .inl f_firsts)), (a_seconds, .inl (cI, 160, .inl f_seconds))]) [0, 1, 2, 3, 4, 5] rfl
  refine roV (As := [.int d, .int 5, .int 0]) (rest := []) S (r_lastTold  (by omega) (by omega) (hs)) (cwV 3 hts gX7_shareOfGuest_X7_lastTold rfl rfl rfl ⟨rfl, hd_X7_lastTold⟩ ⟨Nat.le_of_ble_eq_true rfl, Nat.le_of_ble_eq_true rfl⟩) hK hPc (va_recv hK.1 hPc (ci := 7) (q0 := 0) rfl rfl) rfl hl.1 rfl (Nat.le_of_ble_eq_true rfl) dX7_shareOfGuest_4 ⟨Nat.le_of_ble_eq_true rfl, Nat.le_of_ble_eq_true rfl⟩ (fun r_1 hw_1 => ?_)
  have hw_1 : v_size.toInt = 0 → r_1.toInt = -1 := hw_1
  refine lv_istore_n (lv' := [(2, .int r_1), (0, .ref h), (1, .int d)]) hx hb dX7_shareOfGuest_7 rfl hl (by decide) rfl (fun ls hl => ?_)
  refine lv_iload_n hx hb dX7_shareOfGuest_8 rfl (lv_at hl 0 rfl) ?_
  refine lv_iconst (v := (-1)) hx hb dX7_shareOfGuest_9 (by decide) ?_
  refine lv_icmp_ne (tgt := 17) hx hb dX7_shareOfGuest_10 (by decide) (fun c_2 => ?_) (fun c_2 => ?_)
  · have tc_2 := t_neq c_2
    refine lv_iload_n hx hb dX7_shareOfGuest_17 rfl (lv_at hl 0 rfl) ?_
    exact hret r_1 _ _ (show v_size.toInt = 0 → r_1.toInt = 3 from by omega) rfl dX7_shareOfGuest_18
  · have tc_2 := t_eq c_2
    refine lv_iconst (v := 3) hx hb dX7_shareOfGuest_13 (by decide) ?_
    refine lv_goto (tgt := 18) hx hb dX7_shareOfGuest_14 (by decide) ?_
    exact hret 3 _ _ (show v_size.toInt = 0 → (3 : Int32).toInt = 3 from by omega) rfl dX7_shareOfGuest_18

theorem in_r_take_X6 : ∀ w ∈ wsX60, w ∈ wsX7_take := tl_X7_take_X6
theorem in_r_take_X7 : ∀ w ∈ wsX70, w ∈ wsX7_take := tl_X7_take_X7
set_option maxHeartbeats 8000000 in
set_option maxRecDepth 100000 in
theorem r_take {l : Launch} {D : va_G} {cI cZ cB : ClassId} {sz : Nat} {h a_since a_sizes a_kinds a_firsts a_seconds hr qa_tokens qa_kinds qa_firsts qa_seconds : Nat} {v_size qv_size qv_next qv_first qv_second : Int32} {f_since f_sizes f_kinds f_firsts f_seconds qf_kinds qf_firsts qf_seconds : Nat → Int32} {t : Int32} (hv_size0 : 0 ≤ v_size.toInt) (hv_size1 : v_size.toInt ≤ 10) (hs : InR f_sizes v_size.toInt 0 17) (hqv_size0 : 0 ≤ qv_size.toInt) (hqv_size1 : qv_size.toInt ≤ 16) : Met l yX7_take wsX7_take ({ frames := 1, cells := 0, slots := 0, locals := 20 }) (RW D cI cZ cB [.ref h, .ref hr, .int t] sz [(h, .inr (7, [.ref a_since, .ref a_sizes, .ref a_kinds, .ref a_firsts, .ref a_seconds, .int v_size])), (a_since, .inl (cI, 10, .inl f_since)), (a_sizes, .inl (cI, 10, .inl f_sizes)), (a_kinds, .inl (cI, 160, .inl f_kinds)), (a_firsts, .inl (cI, 160, .inl f_firsts)), (a_seconds, .inl (cI, 160, .inl f_seconds)), (hr, .inr (6, [.ref qa_tokens, .ref qa_kinds, .ref qa_firsts, .ref qa_seconds, .int qv_size, .int qv_next, .int qv_first, .int qv_second])), (qa_kinds, .inl (cI, 16, .inl qf_kinds)), (qa_firsts, .inl (cI, 16, .inl qf_firsts)), (qa_seconds, .inl (cI, 16, .inl qf_seconds))]) (va_Qi (fun (r : Int32) (u : Int32 × (Nat → Int32) × (Nat → Int32) × (Nat → Int32) × (Nat → Int32) × (Nat → Int32)) => (((v_size.toInt = 10 ∧ r.toInt = -1 ∧ u.1 = v_size) ∨ (v_size.toInt < 10 ∧ r.toInt = v_size.toInt ∧ u.1.toInt = v_size.toInt + 1))) ∧ InR u.2.2.1 u.1.toInt 0 17) (BW D [(h, .inr (7, [.ref a_since, .ref a_sizes, .ref a_kinds, .ref a_firsts, .ref a_seconds, .int v_size])), (a_since, .inl (cI, 10, .inl f_since)), (a_sizes, .inl (cI, 10, .inl f_sizes)), (a_kinds, .inl (cI, 160, .inl f_kinds)), (a_firsts, .inl (cI, 160, .inl f_firsts)), (a_seconds, .inl (cI, 160, .inl f_seconds)), (hr, .inr (6, [.ref qa_tokens, .ref qa_kinds, .ref qa_firsts, .ref qa_seconds, .int qv_size, .int qv_next, .int qv_first, .int qv_second])), (qa_kinds, .inl (cI, 16, .inl qf_kinds)), (qa_firsts, .inl (cI, 16, .inl qf_firsts)), (qa_seconds, .inl (cI, 16, .inl qf_seconds))] sz (fun u : Int32 × (Nat → Int32) × (Nat → Int32) × (Nat → Int32) × (Nat → Int32) × (Nat → Int32) => [(h, .inr (7, [.ref a_since, .ref a_sizes, .ref a_kinds, .ref a_firsts, .ref a_seconds, .int u.1])), (a_since, .inl (cI, 10, .inl u.2.1)), (a_sizes, .inl (cI, 10, .inl u.2.2.1)), (a_kinds, .inl (cI, 160, .inl u.2.2.2.1)), (a_firsts, .inl (cI, 160, .inl u.2.2.2.2.1)), (a_seconds, .inl (cI, 160, .inl u.2.2.2.2.2)), (hr, .inr (6, [.ref qa_tokens, .ref qa_kinds, .ref qa_firsts, .ref qa_seconds, .int qv_size, .int qv_next, .int qv_first, .int qv_second])), (qa_kinds, .inl (cI, 16, .inl qf_kinds)), (qa_firsts, .inl (cI, 16, .inl qf_firsts)), (qa_seconds, .inl (cI, 16, .inl qf_seconds))])) (va_A [(h, .inr (7, [.ref a_since, .ref a_sizes, .ref a_kinds, .ref a_firsts, .ref a_seconds, .int v_size])), (a_since, .inl (cI, 10, .inl f_since)), (a_sizes, .inl (cI, 10, .inl f_sizes)), (a_kinds, .inl (cI, 160, .inl f_kinds)), (a_firsts, .inl (cI, 160, .inl f_firsts)), (a_seconds, .inl (cI, 160, .inl f_seconds)), (hr, .inr (6, [.ref qa_tokens, .ref qa_kinds, .ref qa_firsts, .ref qa_seconds, .int qv_size, .int qv_next, .int qv_first, .int qv_second])), (qa_kinds, .inl (cI, 16, .inl qf_kinds)), (qa_firsts, .inl (cI, 16, .inl qf_firsts)), (qa_seconds, .inl (cI, 16, .inl qf_seconds))] sz)) 0 0 (va_A [(h, .inr (7, [.ref a_since, .ref a_sizes, .ref a_kinds, .ref a_firsts, .ref a_seconds, .int v_size])), (a_since, .inl (cI, 10, .inl f_since)), (a_sizes, .inl (cI, 10, .inl f_sizes)), (a_kinds, .inl (cI, 160, .inl f_kinds)), (a_firsts, .inl (cI, 160, .inl f_firsts)), (a_seconds, .inl (cI, 160, .inl f_seconds)), (hr, .inr (6, [.ref qa_tokens, .ref qa_kinds, .ref qa_firsts, .ref qa_seconds, .int qv_size, .int qv_next, .int qv_first, .int qv_second])), (qa_kinds, .inl (cI, 16, .inl qf_kinds)), (qa_firsts, .inl (cI, 16, .inl qf_firsts)), (qa_seconds, .inl (cI, 16, .inl qf_seconds))] sz) := by
  refine rw_ret (cc := cX7_take) (maxL := 4) (ty := .int) (own := RX7) (by decide) rfl rfl (Nat.le_of_ble_eq_true rfl) ?_
  intro p e s m args below meth c Q A S hin hret hP hK hD hA hS ls hl
  obtain ⟨hx, hb, hml, hown, hts⟩ := id S
  have hl : lv_has ls 4 [(0, .ref h), (1, .ref hr), (2, .int t)] := hl
  have kkm1 : (-1 : Int32).toInt = -1 := by decide
  have kk0 : (0 : Int32).toInt = 0 := by decide
  have kk1 : (1 : Int32).toInt = 1 := by decide
  have kk16 : (16 : Int32).toInt = 16 := by decide
  have lk0 := hts (.fieldLink RX7 13 "AbbeyHours$Rules" "since" "[I") (List.mem_cons_of_mem _ (List.mem_append_left _ (List.mem_append_left _ (List.mem_of_getElem? (i := 0) rfl))))
  have lk1 := hts (.fieldLink RX7 29 "AbbeyHours$Rules" "size" "I") (List.mem_cons_of_mem _ (List.mem_append_left _ (List.mem_append_left _ (List.mem_of_getElem? (i := 1) rfl))))
  have lk2 := hts (.fieldLink RX7 17 "AbbeyHours$Rules" "sizes" "[I") (List.mem_cons_of_mem _ (List.mem_append_left _ (List.mem_append_left _ (List.mem_of_getElem? (i := 2) rfl))))
  have lk3 := hts (.fieldLink RX7 20 "AbbeyHours$Rules" "kinds" "[I") (List.mem_cons_of_mem _ (List.mem_append_left _ (List.mem_append_left _ (List.mem_of_getElem? (i := 3) rfl))))
  have lk4 := hts (.fieldLink RX7 23 "AbbeyHours$Rules" "firsts" "[I") (List.mem_cons_of_mem _ (List.mem_append_left _ (List.mem_append_left _ (List.mem_of_getElem? (i := 4) rfl))))
  have lk5 := hts (.fieldLink RX7 26 "AbbeyHours$Rules" "seconds" "[I") (List.mem_cons_of_mem _ (List.mem_append_left _ (List.mem_append_left _ (List.mem_of_getElem? (i := 5) rfl))))
  refine lv_aload_n hx hb dX7_take_0 rfl (lv_at hl 0 rfl) ?_
  have hPc := hP.sub (ws' := [(h, .inr (7, [.ref a_since, .ref a_sizes, .ref a_kinds, .ref a_firsts, .ref a_seconds, .int v_size]))]) [0] rfl
  refine roV (As := []) (rest := []) S (r_isFull  ) (cwV 0 hts gX7_take_X7_isFull rfl rfl rfl ⟨rfl, hd_X7_isFull⟩ ⟨Nat.le_of_ble_eq_true rfl, Nat.le_of_ble_eq_true rfl⟩) hK hPc (va_recv hK.1 hPc (ci := 7) (q0 := 0) rfl rfl) rfl hl.1 rfl (Nat.le_of_ble_eq_true rfl) dX7_take_1 ⟨Nat.le_of_ble_eq_true rfl, Nat.le_of_ble_eq_true rfl⟩ (fun r_1 hw_1 => ?_)
  have hw_1 : (r_1.toInt = 1 ∧ 10 ≤ v_size.toInt) ∨ (r_1.toInt = 0 ∧ v_size.toInt < 10) := hw_1
  refine lv_if_eq (tgt := 9) hx hb dX7_take_4 (by decide) (fun c_2 => ?_) (fun c_2 => ?_)
  · have tc_2 := t_eq c_2
    refine lv_aload_n hx hb dX7_take_9 rfl (lv_at hl 0 rfl) ?_
    refine va_get (D := D) (ci := 7) (v := .ref a_since) (C := RX7) (T := TX7) (N := 6) hx hb hts in_r_take_X7 hown hK.1 hP 0 rfl rfl 0 (by decide) lk0 (fun _ h9 => h9) rfl dX7_take_10 ?_
    refine lv_aload_n hx hb dX7_take_13 rfl (lv_at hl 0 rfl) ?_
    refine va_get (D := D) (ci := 7) (v := .int v_size) (C := RX7) (T := TX7) (N := 6) hx hb hts in_r_take_X7 hown hK.1 hP 0 rfl rfl 5 (by decide) lk1 (fun _ h9 => h9) rfl dX7_take_14 ?_
    refine lv_iload_n hx hb dX7_take_17 rfl (lv_at hl 2 rfl) ?_
    refine va_iast hx hb hK.1 hP hD hS 1 0 rfl rfl (t_in (by omega) (by omega)) dX7_take_18 (fun H locs hP hD hS => ?_)
    obtain ⟨g_3, eg_3⟩ : ∃ z : Nat → Int32, z = upd f_since ((v_size : Int32).toNatClampNeg) t := ⟨_, rfl⟩
    rw [← eg_3] at hP hD
    have hP : va_P D vwCl [(h, .inr (7, [.ref a_since, .ref a_sizes, .ref a_kinds, .ref a_firsts, .ref a_seconds, .int v_size])), (a_since, .inl (cI, 10, .inl g_3)), (a_sizes, .inl (cI, 10, .inl f_sizes)), (a_kinds, .inl (cI, 160, .inl f_kinds)), (a_firsts, .inl (cI, 160, .inl f_firsts)), (a_seconds, .inl (cI, 160, .inl f_seconds)), (hr, .inr (6, [.ref qa_tokens, .ref qa_kinds, .ref qa_firsts, .ref qa_seconds, .int qv_size, .int qv_next, .int qv_first, .int qv_second])), (qa_kinds, .inl (cI, 16, .inl qf_kinds)), (qa_firsts, .inl (cI, 16, .inl qf_firsts)), (qa_seconds, .inl (cI, 16, .inl qf_seconds))] H := hP
    have hD := asD hP hD
    refine lv_aload_n hx hb dX7_take_19 rfl (lv_at hl 0 rfl) ?_
    refine va_get (D := D) (ci := 7) (v := .ref a_sizes) (C := RX7) (T := TX7) (N := 6) hx hb hts in_r_take_X7 hown hK.1 hP 0 rfl rfl 1 (by decide) lk2 (fun _ h9 => h9) rfl dX7_take_20 ?_
    refine lv_aload_n hx hb dX7_take_23 rfl (lv_at hl 0 rfl) ?_
    refine va_get (D := D) (ci := 7) (v := .int v_size) (C := RX7) (T := TX7) (N := 6) hx hb hts in_r_take_X7 hown hK.1 hP 0 rfl rfl 5 (by decide) lk1 (fun _ h9 => h9) rfl dX7_take_24 ?_
    refine lv_aload_n hx hb dX7_take_27 rfl (lv_at hl 1 rfl) ?_
    refine va_getN (D := D) (ci := 6) (v := .int qv_size) (C := RX6) (T := TX6) (N := 8) hx hb hts in_r_take_X6 hown hK.1 hP 6 rfl rfl 4 (by decide) (va_Nw.use rfl (hK.nf 0 rfl)) (fun _ h9 => h9) rfl dX7_take_28 ?_
    refine va_iast hx hb hK.1 hP hD hS 2 0 rfl rfl (t_in (by omega) (by omega)) dX7_take_31 (fun H locs hP hD hS => ?_)
    obtain ⟨gs, egs⟩ : ∃ z : Nat → Int32, z = upd f_sizes ((v_size : Int32).toNatClampNeg) qv_size := ⟨_, rfl⟩
    rw [← egs] at hP hD
    have hP : va_P D vwCl [(h, .inr (7, [.ref a_since, .ref a_sizes, .ref a_kinds, .ref a_firsts, .ref a_seconds, .int v_size])), (a_since, .inl (cI, 10, .inl g_3)), (a_sizes, .inl (cI, 10, .inl gs)), (a_kinds, .inl (cI, 160, .inl f_kinds)), (a_firsts, .inl (cI, 160, .inl f_firsts)), (a_seconds, .inl (cI, 160, .inl f_seconds)), (hr, .inr (6, [.ref qa_tokens, .ref qa_kinds, .ref qa_firsts, .ref qa_seconds, .int qv_size, .int qv_next, .int qv_first, .int qv_second])), (qa_kinds, .inl (cI, 16, .inl qf_kinds)), (qa_firsts, .inl (cI, 16, .inl qf_firsts)), (qa_seconds, .inl (cI, 16, .inl qf_seconds))] H := hP
    have hD := asD hP hD
    refine lv_iconst (v := 0) hx hb dX7_take_32 (by decide) ?_
    refine lv_istore_n (lv' := [(3, .int 0), (0, .ref h), (1, .ref hr), (2, .int t)]) hx hb dX7_take_33 rfl hl (by decide) rfl (fun ls hl => ?_)
    have loop34 : ∀ (fuel : Nat) (j : Int32) (f1 : Nat → Int32) (f2 : Nat → Int32) (f3 : Nat → Int32), 16 - j.toInt < (fuel : Int) → (0 ≤ j.toInt) → (j.toInt ≤ 16) → ∀ (H : Heap) (locs : List Loc), va_P D vwCl [(h, .inr (7, [.ref a_since, .ref a_sizes, .ref a_kinds, .ref a_firsts, .ref a_seconds, .int v_size])), (a_since, .inl (cI, 10, .inl g_3)), (a_sizes, .inl (cI, 10, .inl gs)), (a_kinds, .inl (cI, 160, .inl f1)), (a_firsts, .inl (cI, 160, .inl f2)), (a_seconds, .inl (cI, 160, .inl f3)), (hr, .inr (6, [.ref qa_tokens, .ref qa_kinds, .ref qa_firsts, .ref qa_seconds, .int qv_size, .int qv_next, .int qv_first, .int qv_second])), (qa_kinds, .inl (cI, 16, .inl qf_kinds)), (qa_firsts, .inl (cI, 16, .inl qf_firsts)), (qa_seconds, .inl (cI, 16, .inl qf_seconds))] H → va_D A [(h, .inr (7, [.ref a_since, .ref a_sizes, .ref a_kinds, .ref a_firsts, .ref a_seconds, .int v_size])), (a_since, .inl (cI, 10, .inl g_3)), (a_sizes, .inl (cI, 10, .inl gs)), (a_kinds, .inl (cI, 160, .inl f1)), (a_firsts, .inl (cI, 160, .inl f2)), (a_seconds, .inl (cI, 160, .inl f3)), (hr, .inr (6, [.ref qa_tokens, .ref qa_kinds, .ref qa_firsts, .ref qa_seconds, .int qv_size, .int qv_next, .int qv_first, .int qv_second])), (qa_kinds, .inl (cI, 16, .inl qf_kinds)), (qa_firsts, .inl (cI, 16, .inl qf_firsts)), (qa_seconds, .inl (cI, 16, .inl qf_seconds))] → va_S A s.heap H locs → ∀ ls : Array Slot, lv_has ls 4 [(3, .int j), (0, .ref h), (1, .ref hr), (2, .int t)] → W p l e ({ frames := 1, cells := 0, slots := 0, locals := 20 } : Room) s m args below meth c H locs 0 0 Q (F0 m 34 ls []) := by
      intro fuel
      induction fuel with
      | zero =>
        intro j f1 f2 f3 hmu hj0 hj1 H locs hP hD hS ls hl
        exfalso; omega
      | succ fuel ih34 =>
        intro j f1 f2 f3 hmu hj0 hj1 H locs hP hD hS ls hl
        refine lv_iload_n hx hb dX7_take_34 rfl (lv_at hl 0 rfl) ?_
        refine lv_aload_n hx hb dX7_take_35 rfl (lv_at hl 2 rfl) ?_
        refine va_getN (D := D) (ci := 6) (v := .int qv_size) (C := RX6) (T := TX6) (N := 8) hx hb hts in_r_take_X6 hown hK.1 hP 6 rfl rfl 4 (by decide) (va_Nw.use rfl (hK.nf 0 rfl)) (fun _ h9 => h9) rfl dX7_take_36 ?_
        refine lv_icmp_ge (tgt := 114) hx hb dX7_take_39 (by decide) (fun c_5 => ?_) (fun c_5 => ?_)
        · have tc_5 := t_le c_5
          refine lv_aload_n hx hb dX7_take_114 rfl (lv_at hl 1 rfl) ?_
          refine lv_dup hx hb dX7_take_115 rfl ?_
          refine va_get (D := D) (ci := 7) (v := .int v_size) (C := RX7) (T := TX7) (N := 6) hx hb hts in_r_take_X7 hown hK.1 hP 0 rfl rfl 5 (by decide) lk1 (fun _ h9 => h9) rfl dX7_take_116 ?_
          refine lv_iconst (v := 1) hx hb dX7_take_119 (by decide) ?_
          refine lv_iadd hx hb dX7_take_120 ?_
          refine lv_topi (fun n1 en1 => ?_)
          first | have tn1 := t_add en1 (by omega) (by omega) | skip
          refine va_put (D := D) (ci := 7) (v := .int n1) (ty := .int) (C := RX7) (T := TX7) (N := 6) hx hb hts in_r_take_X7 tyX7 tyX7_ok nmX7 hown hK.1 hP hD hS 0 rfl rfl 5 (by decide) lk1 (fun _ h9 => h9) rfl (by decide +kernel) rfl rfl (Nat.le_of_ble_eq_true rfl) dX7_take_121 (fun H locs hP hD hS => ?_)
          have hP : va_P D vwCl [(h, .inr (7, [.ref a_since, .ref a_sizes, .ref a_kinds, .ref a_firsts, .ref a_seconds, .int n1])), (a_since, .inl (cI, 10, .inl g_3)), (a_sizes, .inl (cI, 10, .inl gs)), (a_kinds, .inl (cI, 160, .inl f1)), (a_firsts, .inl (cI, 160, .inl f2)), (a_seconds, .inl (cI, 160, .inl f3)), (hr, .inr (6, [.ref qa_tokens, .ref qa_kinds, .ref qa_firsts, .ref qa_seconds, .int qv_size, .int qv_next, .int qv_first, .int qv_second])), (qa_kinds, .inl (cI, 16, .inl qf_kinds)), (qa_firsts, .inl (cI, 16, .inl qf_firsts)), (qa_seconds, .inl (cI, 16, .inl qf_seconds))] H := hP
          have hD := asD hP hD
          refine lv_aload_n hx hb dX7_take_124 rfl (lv_at hl 1 rfl) ?_
          refine va_get (D := D) (ci := 7) (v := .int n1) (C := RX7) (T := TX7) (N := 6) hx hb hts in_r_take_X7 hown hK.1 hP 0 rfl rfl 5 (by decide) lk1 (fun _ h9 => h9) rfl dX7_take_125 ?_
          refine lv_iconst (v := 1) hx hb dX7_take_128 (by decide) ?_
          refine lv_isub hx hb dX7_take_129 ?_
          refine lv_topi (fun x_7 ex_7 => ?_)
          first | have tx_7 := t_sub ex_7 (by omega) (by omega) | skip
          exact hret x_7 (n1, g_3, gs, f1, f2, f3) _ _ _ _ (show (((v_size.toInt = 10 ∧ x_7.toInt = -1 ∧ n1 = v_size) ∨ (v_size.toInt < 10 ∧ x_7.toInt = v_size.toInt ∧ n1.toInt = v_size.toInt + 1))) ∧ InR gs n1.toInt 0 17 from ⟨Or.inr ⟨by omega, by omega, by omega⟩, by rw [egs]; exact hs.ext (by omega) (by omega) (by omega) (by omega)⟩) rfl (hP.sub [0, 1, 2, 3, 4, 5, 6, 7, 8, 9] rfl) (hD.sub [0, 1, 2, 3, 4, 5, 6, 7, 8, 9] (by decide +kernel) rfl) hS dX7_take_130
        · have tc_5 := t_nle c_5
          refine lv_iload_n hx hb dX7_take_42 rfl (lv_at hl 0 rfl) ?_
          refine lv_bipush (v := 16) hx hb dX7_take_43 (by decide) ?_
          refine lv_icmp_ge (tgt := 114) hx hb dX7_take_45 (by decide) (fun c_8 => ?_) (fun c_8 => ?_)
          · have tc_8 := t_le c_8
            refine lv_aload_n hx hb dX7_take_114 rfl (lv_at hl 1 rfl) ?_
            refine lv_dup hx hb dX7_take_115 rfl ?_
            refine va_get (D := D) (ci := 7) (v := .int v_size) (C := RX7) (T := TX7) (N := 6) hx hb hts in_r_take_X7 hown hK.1 hP 0 rfl rfl 5 (by decide) lk1 (fun _ h9 => h9) rfl dX7_take_116 ?_
            refine lv_iconst (v := 1) hx hb dX7_take_119 (by decide) ?_
            refine lv_iadd hx hb dX7_take_120 ?_
            refine lv_topi (fun n1 en1 => ?_)
            first | have tn1 := t_add en1 (by omega) (by omega) | skip
            refine va_put (D := D) (ci := 7) (v := .int n1) (ty := .int) (C := RX7) (T := TX7) (N := 6) hx hb hts in_r_take_X7 tyX7 tyX7_ok nmX7 hown hK.1 hP hD hS 0 rfl rfl 5 (by decide) lk1 (fun _ h9 => h9) rfl (by decide +kernel) rfl rfl (Nat.le_of_ble_eq_true rfl) dX7_take_121 (fun H locs hP hD hS => ?_)
            have hP : va_P D vwCl [(h, .inr (7, [.ref a_since, .ref a_sizes, .ref a_kinds, .ref a_firsts, .ref a_seconds, .int n1])), (a_since, .inl (cI, 10, .inl g_3)), (a_sizes, .inl (cI, 10, .inl gs)), (a_kinds, .inl (cI, 160, .inl f1)), (a_firsts, .inl (cI, 160, .inl f2)), (a_seconds, .inl (cI, 160, .inl f3)), (hr, .inr (6, [.ref qa_tokens, .ref qa_kinds, .ref qa_firsts, .ref qa_seconds, .int qv_size, .int qv_next, .int qv_first, .int qv_second])), (qa_kinds, .inl (cI, 16, .inl qf_kinds)), (qa_firsts, .inl (cI, 16, .inl qf_firsts)), (qa_seconds, .inl (cI, 16, .inl qf_seconds))] H := hP
            have hD := asD hP hD
            refine lv_aload_n hx hb dX7_take_124 rfl (lv_at hl 1 rfl) ?_
            refine va_get (D := D) (ci := 7) (v := .int n1) (C := RX7) (T := TX7) (N := 6) hx hb hts in_r_take_X7 hown hK.1 hP 0 rfl rfl 5 (by decide) lk1 (fun _ h9 => h9) rfl dX7_take_125 ?_
            refine lv_iconst (v := 1) hx hb dX7_take_128 (by decide) ?_
            refine lv_isub hx hb dX7_take_129 ?_
            refine lv_topi (fun x_10 ex_10 => ?_)
            first | have tx_10 := t_sub ex_10 (by omega) (by omega) | skip
            exact hret x_10 (n1, g_3, gs, f1, f2, f3) _ _ _ _ (show (((v_size.toInt = 10 ∧ x_10.toInt = -1 ∧ n1 = v_size) ∨ (v_size.toInt < 10 ∧ x_10.toInt = v_size.toInt ∧ n1.toInt = v_size.toInt + 1))) ∧ InR gs n1.toInt 0 17 from ⟨Or.inr ⟨by omega, by omega, by omega⟩, by rw [egs]; exact hs.ext (by omega) (by omega) (by omega) (by omega)⟩) rfl (hP.sub [0, 1, 2, 3, 4, 5, 6, 7, 8, 9] rfl) (hD.sub [0, 1, 2, 3, 4, 5, 6, 7, 8, 9] (by decide +kernel) rfl) hS dX7_take_130
          · have tc_8 := t_nle c_8
            refine lv_aload_n hx hb dX7_take_48 rfl (lv_at hl 1 rfl) ?_
            refine va_get (D := D) (ci := 7) (v := .ref a_kinds) (C := RX7) (T := TX7) (N := 6) hx hb hts in_r_take_X7 hown hK.1 hP 0 rfl rfl 2 (by decide) lk3 (fun _ h9 => h9) rfl dX7_take_49 ?_
            refine lv_aload_n hx hb dX7_take_52 rfl (lv_at hl 1 rfl) ?_
            refine va_get (D := D) (ci := 7) (v := .int v_size) (C := RX7) (T := TX7) (N := 6) hx hb hts in_r_take_X7 hown hK.1 hP 0 rfl rfl 5 (by decide) lk1 (fun _ h9 => h9) rfl dX7_take_53 ?_
            refine lv_bipush (v := 16) hx hb dX7_take_56 (by decide) ?_
            refine lv_imul hx hb dX7_take_58 ?_
            refine lv_topi (fun x_11 ex_11 => ?_)
            first | have tx_11 := t_mulK kk16 ex_11 (by omega) (by omega) | skip
            refine lv_iload_n hx hb dX7_take_59 rfl (lv_at hl 0 rfl) ?_
            refine lv_iadd hx hb dX7_take_60 ?_
            refine lv_topi (fun x_12 ex_12 => ?_)
            first | have tx_12 := t_add ex_12 (by omega) (by omega) | skip
            refine lv_aload_n hx hb dX7_take_61 rfl (lv_at hl 2 rfl) ?_
            refine va_getN (D := D) (ci := 6) (v := .ref qa_kinds) (C := RX6) (T := TX6) (N := 8) hx hb hts in_r_take_X6 hown hK.1 hP 6 rfl rfl 1 (by decide) (va_Nw.use rfl (hK.nf 1 rfl)) (fun _ h9 => h9) rfl dX7_take_62 ?_
            refine lv_iload_n hx hb dX7_take_65 rfl (lv_at hl 0 rfl) ?_
            refine va_iald hx hb hK.1 hP 7 0 rfl rfl (t_in (by omega) (by omega)) dX7_take_66 ?_
            refine lv_topi (fun y_13 ey_13 => ?_)
            refine va_iast hx hb hK.1 hP hD hS 3 0 rfl rfl (t_in (by omega) (by omega)) dX7_take_67 (fun H locs hP hD hS => ?_)
            obtain ⟨g_14, eg_14⟩ : ∃ z : Nat → Int32, z = upd f1 ((x_12 : Int32).toNatClampNeg) y_13 := ⟨_, rfl⟩
            rw [← eg_14] at hP hD
            have hP : va_P D vwCl [(h, .inr (7, [.ref a_since, .ref a_sizes, .ref a_kinds, .ref a_firsts, .ref a_seconds, .int v_size])), (a_since, .inl (cI, 10, .inl g_3)), (a_sizes, .inl (cI, 10, .inl gs)), (a_kinds, .inl (cI, 160, .inl g_14)), (a_firsts, .inl (cI, 160, .inl f2)), (a_seconds, .inl (cI, 160, .inl f3)), (hr, .inr (6, [.ref qa_tokens, .ref qa_kinds, .ref qa_firsts, .ref qa_seconds, .int qv_size, .int qv_next, .int qv_first, .int qv_second])), (qa_kinds, .inl (cI, 16, .inl qf_kinds)), (qa_firsts, .inl (cI, 16, .inl qf_firsts)), (qa_seconds, .inl (cI, 16, .inl qf_seconds))] H := hP
            have hD := asD hP hD
            refine lv_aload_n hx hb dX7_take_68 rfl (lv_at hl 1 rfl) ?_
            refine va_get (D := D) (ci := 7) (v := .ref a_firsts) (C := RX7) (T := TX7) (N := 6) hx hb hts in_r_take_X7 hown hK.1 hP 0 rfl rfl 3 (by decide) lk4 (fun _ h9 => h9) rfl dX7_take_69 ?_
            refine lv_aload_n hx hb dX7_take_72 rfl (lv_at hl 1 rfl) ?_
            refine va_get (D := D) (ci := 7) (v := .int v_size) (C := RX7) (T := TX7) (N := 6) hx hb hts in_r_take_X7 hown hK.1 hP 0 rfl rfl 5 (by decide) lk1 (fun _ h9 => h9) rfl dX7_take_73 ?_
            refine lv_bipush (v := 16) hx hb dX7_take_76 (by decide) ?_
            refine lv_imul hx hb dX7_take_78 ?_
            refine lv_topi (fun x_15 ex_15 => ?_)
            first | have tx_15 := t_mulK kk16 ex_15 (by omega) (by omega) | skip
            refine lv_iload_n hx hb dX7_take_79 rfl (lv_at hl 0 rfl) ?_
            refine lv_iadd hx hb dX7_take_80 ?_
            refine lv_topi (fun x_16 ex_16 => ?_)
            first | have tx_16 := t_add ex_16 (by omega) (by omega) | skip
            refine lv_aload_n hx hb dX7_take_81 rfl (lv_at hl 2 rfl) ?_
            refine va_getN (D := D) (ci := 6) (v := .ref qa_firsts) (C := RX6) (T := TX6) (N := 8) hx hb hts in_r_take_X6 hown hK.1 hP 6 rfl rfl 2 (by decide) (va_Nw.use rfl (hK.nf 2 rfl)) (fun _ h9 => h9) rfl dX7_take_82 ?_
            refine lv_iload_n hx hb dX7_take_85 rfl (lv_at hl 0 rfl) ?_
            refine va_iald hx hb hK.1 hP 8 0 rfl rfl (t_in (by omega) (by omega)) dX7_take_86 ?_
            refine lv_topi (fun y_17 ey_17 => ?_)
            refine va_iast hx hb hK.1 hP hD hS 4 0 rfl rfl (t_in (by omega) (by omega)) dX7_take_87 (fun H locs hP hD hS => ?_)
            obtain ⟨g_18, eg_18⟩ : ∃ z : Nat → Int32, z = upd f2 ((x_16 : Int32).toNatClampNeg) y_17 := ⟨_, rfl⟩
            rw [← eg_18] at hP hD
            have hP : va_P D vwCl [(h, .inr (7, [.ref a_since, .ref a_sizes, .ref a_kinds, .ref a_firsts, .ref a_seconds, .int v_size])), (a_since, .inl (cI, 10, .inl g_3)), (a_sizes, .inl (cI, 10, .inl gs)), (a_kinds, .inl (cI, 160, .inl g_14)), (a_firsts, .inl (cI, 160, .inl g_18)), (a_seconds, .inl (cI, 160, .inl f3)), (hr, .inr (6, [.ref qa_tokens, .ref qa_kinds, .ref qa_firsts, .ref qa_seconds, .int qv_size, .int qv_next, .int qv_first, .int qv_second])), (qa_kinds, .inl (cI, 16, .inl qf_kinds)), (qa_firsts, .inl (cI, 16, .inl qf_firsts)), (qa_seconds, .inl (cI, 16, .inl qf_seconds))] H := hP
            have hD := asD hP hD
            refine lv_aload_n hx hb dX7_take_88 rfl (lv_at hl 1 rfl) ?_
            refine va_get (D := D) (ci := 7) (v := .ref a_seconds) (C := RX7) (T := TX7) (N := 6) hx hb hts in_r_take_X7 hown hK.1 hP 0 rfl rfl 4 (by decide) lk5 (fun _ h9 => h9) rfl dX7_take_89 ?_
            refine lv_aload_n hx hb dX7_take_92 rfl (lv_at hl 1 rfl) ?_
            refine va_get (D := D) (ci := 7) (v := .int v_size) (C := RX7) (T := TX7) (N := 6) hx hb hts in_r_take_X7 hown hK.1 hP 0 rfl rfl 5 (by decide) lk1 (fun _ h9 => h9) rfl dX7_take_93 ?_
            refine lv_bipush (v := 16) hx hb dX7_take_96 (by decide) ?_
            refine lv_imul hx hb dX7_take_98 ?_
            refine lv_topi (fun x_19 ex_19 => ?_)
            first | have tx_19 := t_mulK kk16 ex_19 (by omega) (by omega) | skip
            refine lv_iload_n hx hb dX7_take_99 rfl (lv_at hl 0 rfl) ?_
            refine lv_iadd hx hb dX7_take_100 ?_
            refine lv_topi (fun x_20 ex_20 => ?_)
            first | have tx_20 := t_add ex_20 (by omega) (by omega) | skip
            refine lv_aload_n hx hb dX7_take_101 rfl (lv_at hl 2 rfl) ?_
            refine va_getN (D := D) (ci := 6) (v := .ref qa_seconds) (C := RX6) (T := TX6) (N := 8) hx hb hts in_r_take_X6 hown hK.1 hP 6 rfl rfl 3 (by decide) (va_Nw.use rfl (hK.nf 3 rfl)) (fun _ h9 => h9) rfl dX7_take_102 ?_
            refine lv_iload_n hx hb dX7_take_105 rfl (lv_at hl 0 rfl) ?_
            refine va_iald hx hb hK.1 hP 9 0 rfl rfl (t_in (by omega) (by omega)) dX7_take_106 ?_
            refine lv_topi (fun y_21 ey_21 => ?_)
            refine va_iast hx hb hK.1 hP hD hS 5 0 rfl rfl (t_in (by omega) (by omega)) dX7_take_107 (fun H locs hP hD hS => ?_)
            obtain ⟨g_22, eg_22⟩ : ∃ z : Nat → Int32, z = upd f3 ((x_20 : Int32).toNatClampNeg) y_21 := ⟨_, rfl⟩
            rw [← eg_22] at hP hD
            have hP : va_P D vwCl [(h, .inr (7, [.ref a_since, .ref a_sizes, .ref a_kinds, .ref a_firsts, .ref a_seconds, .int v_size])), (a_since, .inl (cI, 10, .inl g_3)), (a_sizes, .inl (cI, 10, .inl gs)), (a_kinds, .inl (cI, 160, .inl g_14)), (a_firsts, .inl (cI, 160, .inl g_18)), (a_seconds, .inl (cI, 160, .inl g_22)), (hr, .inr (6, [.ref qa_tokens, .ref qa_kinds, .ref qa_firsts, .ref qa_seconds, .int qv_size, .int qv_next, .int qv_first, .int qv_second])), (qa_kinds, .inl (cI, 16, .inl qf_kinds)), (qa_firsts, .inl (cI, 16, .inl qf_firsts)), (qa_seconds, .inl (cI, 16, .inl qf_seconds))] H := hP
            have hD := asD hP hD
            obtain ⟨x_23, ex_23⟩ : ∃ y : Int32, y = j + 1 := ⟨_, rfl⟩
            refine lv_iinc (v := x_23) (lv' := [(3, .int x_23), (0, .ref h), (1, .ref hr), (2, .int t)]) hx hb dX7_take_108 hl (k := 0) rfl (by rw [ex_23]; rfl) (by decide) rfl (fun ls hl => ?_)
            first | have tx_23 := t_add ex_23 (by omega) (by omega) | skip
            refine lv_goto (tgt := 34) hx hb dX7_take_111 (by decide) ?_
            exact ih34 x_23 g_14 g_18 g_22 (by omega) (by omega) (by omega) _ _ hP hD hS ls (lv_sub hl [0, 1, 2, 3] rfl)
    exact loop34 ((16 - (0 : Int32).toInt).toNat + 1) 0 f_kinds f_firsts f_seconds (by omega) (by omega) (by omega) _ _ hP hD hS ls (lv_sub hl [0, 1, 2, 3] rfl)
  · have tc_2 := t_neq c_2
    refine lv_iconst (v := (-1)) hx hb dX7_take_7 (by decide) ?_
    exact hret (-1) (v_size, f_since, f_sizes, f_kinds, f_firsts, f_seconds) _ _ _ _ (show (((v_size.toInt = 10 ∧ (-1 : Int32).toInt = -1 ∧ v_size = v_size) ∨ (v_size.toInt < 10 ∧ (-1 : Int32).toInt = v_size.toInt ∧ v_size.toInt = v_size.toInt + 1))) ∧ InR f_sizes v_size.toInt 0 17 from ⟨Or.inl ⟨by omega, by omega, rfl⟩, hs⟩) rfl (hP.sub [0, 1, 2, 3, 4, 5, 6, 7, 8, 9] rfl) (hD.sub [0, 1, 2, 3, 4, 5, 6, 7, 8, 9] (by decide +kernel) rfl) hS dX7_take_8

theorem in_tk_kind_X10 : ∀ w ∈ wsX100, w ∈ wsX10_kind := tl_X10_kind_X10
set_option maxHeartbeats 8000000 in
set_option maxRecDepth 100000 in
theorem tk_kind {l : Launch} {D : va_G} {cI cZ cB : ClassId} {h a_kinds a_places a_values : Nat} {v_size v_textLength : Int32} {f_kinds : Nat → Int32} {i : Int32} (hv_size0 : 0 ≤ v_size.toInt) (hv_size1 : v_size.toInt ≤ 97) : Met l yX10_kind wsX10_kind ({ frames := 0, cells := 0, slots := 0, locals := 0 }) (RO D cI cZ cB [.ref h, .int i] [(h, .inr (9, [.ref a_kinds, .ref a_places, .ref a_values, .int v_size, .int v_textLength])), (a_kinds, .inl (cI, 97, .inl f_kinds))]) (vp_Si (fun r : Int32 => v_size.toInt = 0 → r.toInt = 0)) 0 0 (fun _ => False) := by
  refine ro_ret (cc := cX10_kind) (maxL := 2) (ty := .int) (own := RX10) (by decide) rfl rfl (Nat.le_of_ble_eq_true rfl) ?_
  intro p e s m args below meth c Q S hret hP hK ls hl
  obtain ⟨hx, hb, hml, hown, hts⟩ := id S
  have hl : lv_has ls 2 [(0, .ref h), (1, .int i)] := hl
  have kk0 : (0 : Int32).toInt = 0 := by decide
  have lk0 := hts (.fieldLink RX10 21 "AbbeyHours$Tokens" "size" "I") (List.mem_cons_of_mem _ (List.mem_append_left _ (List.mem_of_getElem? (i := 0) rfl)))
  have lk1 := hts (.fieldLink RX10 11 "AbbeyHours$Tokens" "kinds" "[I") (List.mem_cons_of_mem _ (List.mem_append_left _ (List.mem_of_getElem? (i := 1) rfl)))
  refine lv_iload_n hx hb dX10_kind_0 rfl (lv_at hl 1 rfl) ?_
  refine lv_if_lt (tgt := 21) hx hb dX10_kind_1 (by decide) (fun c_1 => ?_) (fun c_1 => ?_)
  · have tc_1 := t_lt c_1
    refine lv_iconst (v := 0) hx hb dX10_kind_21 (by decide) ?_
    exact hret 0 _ _ (show v_size.toInt = 0 → (0 : Int32).toInt = 0 from by omega) rfl dX10_kind_22
  · have tc_1 := t_nlt c_1
    refine lv_iload_n hx hb dX10_kind_4 rfl (lv_at hl 1 rfl) ?_
    refine lv_aload_n hx hb dX10_kind_5 rfl (lv_at hl 0 rfl) ?_
    refine va_get (D := D) (ci := 9) (v := .int v_size) (C := RX10) (T := TX10) (N := 5) hx hb hts in_tk_kind_X10 hown hK.1 hP 0 rfl rfl 3 (by decide) lk0 (fun _ h9 => h9) rfl dX10_kind_6 ?_
    refine lv_icmp_ge (tgt := 21) hx hb dX10_kind_9 (by decide) (fun c_2 => ?_) (fun c_2 => ?_)
    · have tc_2 := t_le c_2
      refine lv_iconst (v := 0) hx hb dX10_kind_21 (by decide) ?_
      exact hret 0 _ _ (show v_size.toInt = 0 → (0 : Int32).toInt = 0 from by omega) rfl dX10_kind_22
    · have tc_2 := t_nle c_2
      refine lv_aload_n hx hb dX10_kind_12 rfl (lv_at hl 0 rfl) ?_
      refine va_get (D := D) (ci := 9) (v := .ref a_kinds) (C := RX10) (T := TX10) (N := 5) hx hb hts in_tk_kind_X10 hown hK.1 hP 0 rfl rfl 0 (by decide) lk1 (fun _ h9 => h9) rfl dX10_kind_13 ?_
      refine lv_iload_n hx hb dX10_kind_16 rfl (lv_at hl 1 rfl) ?_
      refine va_iald hx hb hK.1 hP 1 0 rfl rfl (t_in (by omega) (by omega)) dX10_kind_17 ?_
      refine lv_topi (fun y_3 ey_3 => ?_)
      refine lv_goto (tgt := 22) hx hb dX10_kind_18 (by decide) ?_
      exact hret y_3 _ _ (show v_size.toInt = 0 → y_3.toInt = 0 from by omega) rfl dX10_kind_22

