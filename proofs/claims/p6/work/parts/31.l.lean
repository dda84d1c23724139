theorem in_h_gives_X3 : ∀ w ∈ wsX30, w ∈ wsX3_givesWay := tl_X3_givesWay_X3
set_option maxHeartbeats 8000000 in
set_option maxRecDepth 100000 in
theorem h_gives {l : Launch} {D : va_G} {cI cZ cB : ClassId} {h a_falls a_ranks a_standsOn a_heldOn a_holder a_standing : Nat} {v_size : Int32} {f_falls f_ranks : Nat → Int32} {i j y : Int32} (hi0 : 0 ≤ i.toInt) (hi1 : i.toInt < 40) (hj0 : 0 ≤ j.toInt) (hj1 : j.toInt < 40) (hy0 : 0 ≤ y.toInt) : Met l yX3_givesWay wsX3_givesWay ({ frames := 0, cells := 0, slots := 0, locals := 0 }) (RO D cI cZ cB [.ref h, .int i, .int j, .int y] [(h, .inr (3, [.ref a_falls, .ref a_ranks, .ref a_standsOn, .ref a_heldOn, .ref a_holder, .ref a_standing, .int v_size])), (a_falls, .inl (cI, 40, .inl f_falls)), (a_ranks, .inl (cI, 40, .inl f_ranks))]) (vp_Si (fun r : Int32 => (r.toInt = 1 ∧ keyF f_falls f_ranks y.toNatClampNeg j.toNatClampNeg < keyF f_falls f_ranks y.toNatClampNeg i.toNatClampNeg) ∨ (r.toInt = 0 ∧ ¬ keyF f_falls f_ranks y.toNatClampNeg j.toNatClampNeg < keyF f_falls f_ranks y.toNatClampNeg i.toNatClampNeg))) 0 0 (fun _ => False) := by
  refine ro_ret (cc := cX3_givesWay) (maxL := 4) (ty := .boolean) (own := RX3) (by decide) rfl rfl (Nat.le_of_ble_eq_true rfl) ?_
  intro p e s m args below meth c Q S hret hP hK ls hl
  obtain ⟨hx, hb, hml, hown, hts⟩ := id S
  have hl : lv_has ls 4 [(0, .ref h), (1, .int i), (2, .int j), (3, .int y)] := hl
  have kk0 : (0 : Int32).toInt = 0 := by decide
  have kk1 : (1 : Int32).toInt = 1 := by decide
  have lk0 := hts (.fieldLink RX3 15 "AbbeyHours$Feasts" "ranks" "[I") (List.mem_cons_of_mem _ (List.mem_append_left _ (List.mem_of_getElem? (i := 0) rfl)))
  have lk1 := hts (.fieldLink RX3 11 "AbbeyHours$Feasts" "falls" "[I") (List.mem_cons_of_mem _ (List.mem_append_left _ (List.mem_of_getElem? (i := 1) rfl)))
  refine lv_aload_n hx hb dX3_givesWay_0 rfl (lv_at hl 0 rfl) ?_
  refine va_get (D := D) (ci := 3) (v := .ref a_ranks) (C := RX3) (T := TX3) (N := 7) hx hb hts in_h_gives_X3 hown hK.1 hP 0 rfl rfl 1 (by decide) lk0 (fun _ h9 => h9) rfl dX3_givesWay_1 ?_
  refine lv_iload_n hx hb dX3_givesWay_4 rfl (lv_at hl 1 rfl) ?_
  refine va_iald hx hb hK.1 hP 2 0 rfl rfl (t_in (by omega) (by omega)) dX3_givesWay_5 ?_
  refine lv_topi (fun y1 ey1 => ?_)
  refine lv_aload_n hx hb dX3_givesWay_6 rfl (lv_at hl 0 rfl) ?_
  refine va_get (D := D) (ci := 3) (v := .ref a_ranks) (C := RX3) (T := TX3) (N := 7) hx hb hts in_h_gives_X3 hown hK.1 hP 0 rfl rfl 1 (by decide) lk0 (fun _ h9 => h9) rfl dX3_givesWay_7 ?_
  refine lv_iload_n hx hb dX3_givesWay_10 rfl (lv_at hl 2 rfl) ?_
  refine va_iald hx hb hK.1 hP 2 0 rfl rfl (t_in (by omega) (by omega)) dX3_givesWay_11 ?_
  refine lv_topi (fun y2 ey2 => ?_)
  refine lv_icmp_eq (tgt := 36) hx hb dX3_givesWay_12 (by decide) (fun c_3 => ?_) (fun c_3 => ?_)
  · have tc_3 := t_eq c_3
    refine lv_aload_n hx hb dX3_givesWay_36 rfl (lv_at hl 0 rfl) ?_
    refine va_get (D := D) (ci := 3) (v := .ref a_falls) (C := RX3) (T := TX3) (N := 7) hx hb hts in_h_gives_X3 hown hK.1 hP 0 rfl rfl 0 (by decide) lk1 (fun _ h9 => h9) rfl dX3_givesWay_37 ?_
    refine lv_iload_n hx hb dX3_givesWay_40 rfl (lv_at hl 1 rfl) ?_
    refine va_iald hx hb hK.1 hP 1 0 rfl rfl (t_in (by omega) (by omega)) dX3_givesWay_41 ?_
    refine lv_topi (fun y5 ey5 => ?_)
    refine lv_iload_n hx hb dX3_givesWay_42 rfl (lv_at hl 3 rfl) ?_
    refine lv_icmp_eq (tgt := 60) hx hb dX3_givesWay_43 (by decide) (fun c_5 => ?_) (fun c_5 => ?_)
    · have tc_5 := t_eq c_5
      refine lv_iconst (v := 0) hx hb dX3_givesWay_60 (by decide) ?_
      exact hret 0 _ _ (show ((0 : Int32).toInt = 1 ∧ keyF f_falls f_ranks y.toNatClampNeg j.toNatClampNeg < keyF f_falls f_ranks y.toNatClampNeg i.toNatClampNeg) ∨ ((0 : Int32).toInt = 0 ∧ ¬ keyF f_falls f_ranks y.toNatClampNeg j.toNatClampNeg < keyF f_falls f_ranks y.toNatClampNeg i.toNatClampNeg) from by have hcy := t_cl (x := y) (by omega); (first | have a1 := t_eq ey1 | skip); (first | have a2 := t_eq ey2 | skip); (first | have a3 := t_eq ey3 | skip); (first | have a4 := t_eq ey4 | skip); (first | have a5 := t_eq ey5 | skip); (first | have a6 := t_eq ey6 | skip); unfold keyF; (repeat' split) <;> omega) rfl dX3_givesWay_61
    · have tc_5 := t_neq c_5
      refine lv_aload_n hx hb dX3_givesWay_46 rfl (lv_at hl 0 rfl) ?_
      refine va_get (D := D) (ci := 3) (v := .ref a_falls) (C := RX3) (T := TX3) (N := 7) hx hb hts in_h_gives_X3 hown hK.1 hP 0 rfl rfl 0 (by decide) lk1 (fun _ h9 => h9) rfl dX3_givesWay_47 ?_
      refine lv_iload_n hx hb dX3_givesWay_50 rfl (lv_at hl 2 rfl) ?_
      refine va_iald hx hb hK.1 hP 1 0 rfl rfl (t_in (by omega) (by omega)) dX3_givesWay_51 ?_
      refine lv_topi (fun y6 ey6 => ?_)
      refine lv_iload_n hx hb dX3_givesWay_52 rfl (lv_at hl 3 rfl) ?_
      refine lv_icmp_ne (tgt := 60) hx hb dX3_givesWay_53 (by decide) (fun c_7 => ?_) (fun c_7 => ?_)
      · have tc_7 := t_neq c_7
        refine lv_iconst (v := 0) hx hb dX3_givesWay_60 (by decide) ?_
        exact hret 0 _ _ (show ((0 : Int32).toInt = 1 ∧ keyF f_falls f_ranks y.toNatClampNeg j.toNatClampNeg < keyF f_falls f_ranks y.toNatClampNeg i.toNatClampNeg) ∨ ((0 : Int32).toInt = 0 ∧ ¬ keyF f_falls f_ranks y.toNatClampNeg j.toNatClampNeg < keyF f_falls f_ranks y.toNatClampNeg i.toNatClampNeg) from by have hcy := t_cl (x := y) (by omega); (first | have a1 := t_eq ey1 | skip); (first | have a2 := t_eq ey2 | skip); (first | have a3 := t_eq ey3 | skip); (first | have a4 := t_eq ey4 | skip); (first | have a5 := t_eq ey5 | skip); (first | have a6 := t_eq ey6 | skip); unfold keyF; (repeat' split) <;> omega) rfl dX3_givesWay_61
      · have tc_7 := t_eq c_7
        refine lv_iconst (v := 1) hx hb dX3_givesWay_56 (by decide) ?_
        refine lv_goto (tgt := 61) hx hb dX3_givesWay_57 (by decide) ?_
        exact hret 1 _ _ (show ((1 : Int32).toInt = 1 ∧ keyF f_falls f_ranks y.toNatClampNeg j.toNatClampNeg < keyF f_falls f_ranks y.toNatClampNeg i.toNatClampNeg) ∨ ((1 : Int32).toInt = 0 ∧ ¬ keyF f_falls f_ranks y.toNatClampNeg j.toNatClampNeg < keyF f_falls f_ranks y.toNatClampNeg i.toNatClampNeg) from by have hcy := t_cl (x := y) (by omega); (first | have a1 := t_eq ey1 | skip); (first | have a2 := t_eq ey2 | skip); (first | have a3 := t_eq ey3 | skip); (first | have a4 := t_eq ey4 | skip); (first | have a5 := t_eq ey5 | skip); (first | have a6 := t_eq ey6 | skip); unfold keyF; (repeat' split) <;> omega) rfl dX3_givesWay_61
  · have tc_3 := t_neq c_3
    refine lv_aload_n hx hb dX3_givesWay_15 rfl (lv_at hl 0 rfl) ?_
    refine va_get (D := D) (ci := 3) (v := .ref a_ranks) (C := RX3) (T := TX3) (N := 7) hx hb hts in_h_gives_X3 hown hK.1 hP 0 rfl rfl 1 (by decide) lk0 (fun _ h9 => h9) rfl dX3_givesWay_16 ?_
    refine lv_iload_n hx hb dX3_givesWay_19 rfl (lv_at hl 1 rfl) ?_
    refine va_iald hx hb hK.1 hP 2 0 rfl rfl (t_in (by omega) (by omega)) dX3_givesWay_20 ?_
    refine lv_topi (fun y3 ey3 => ?_)
    refine lv_aload_n hx hb dX3_givesWay_21 rfl (lv_at hl 0 rfl) ?_
    refine va_get (D := D) (ci := 3) (v := .ref a_ranks) (C := RX3) (T := TX3) (N := 7) hx hb hts in_h_gives_X3 hown hK.1 hP 0 rfl rfl 1 (by decide) lk0 (fun _ h9 => h9) rfl dX3_givesWay_22 ?_
    refine lv_iload_n hx hb dX3_givesWay_25 rfl (lv_at hl 2 rfl) ?_
    refine va_iald hx hb hK.1 hP 2 0 rfl rfl (t_in (by omega) (by omega)) dX3_givesWay_26 ?_
    refine lv_topi (fun y4 ey4 => ?_)
    refine lv_icmp_ge (tgt := 34) hx hb dX3_givesWay_27 (by decide) (fun c_10 => ?_) (fun c_10 => ?_)
    · have tc_10 := t_le c_10
      refine lv_iconst (v := 0) hx hb dX3_givesWay_34 (by decide) ?_
      exact hret 0 _ _ (show ((0 : Int32).toInt = 1 ∧ keyF f_falls f_ranks y.toNatClampNeg j.toNatClampNeg < keyF f_falls f_ranks y.toNatClampNeg i.toNatClampNeg) ∨ ((0 : Int32).toInt = 0 ∧ ¬ keyF f_falls f_ranks y.toNatClampNeg j.toNatClampNeg < keyF f_falls f_ranks y.toNatClampNeg i.toNatClampNeg) from by have hcy := t_cl (x := y) (by omega); (first | have a1 := t_eq ey1 | skip); (first | have a2 := t_eq ey2 | skip); (first | have a3 := t_eq ey3 | skip); (first | have a4 := t_eq ey4 | skip); (first | have a5 := t_eq ey5 | skip); (first | have a6 := t_eq ey6 | skip); unfold keyF; (repeat' split) <;> omega) rfl dX3_givesWay_35
    · have tc_10 := t_nle c_10
      refine lv_iconst (v := 1) hx hb dX3_givesWay_30 (by decide) ?_
      refine lv_goto (tgt := 35) hx hb dX3_givesWay_31 (by decide) ?_
      exact hret 1 _ _ (show ((1 : Int32).toInt = 1 ∧ keyF f_falls f_ranks y.toNatClampNeg j.toNatClampNeg < keyF f_falls f_ranks y.toNatClampNeg i.toNatClampNeg) ∨ ((1 : Int32).toInt = 0 ∧ ¬ keyF f_falls f_ranks y.toNatClampNeg j.toNatClampNeg < keyF f_falls f_ranks y.toNatClampNeg i.toNatClampNeg) from by have hcy := t_cl (x := y) (by omega); (first | have a1 := t_eq ey1 | skip); (first | have a2 := t_eq ey2 | skip); (first | have a3 := t_eq ey3 | skip); (first | have a4 := t_eq ey4 | skip); (first | have a5 := t_eq ey5 | skip); (first | have a6 := t_eq ey6 | skip); unfold keyF; (repeat' split) <;> omega) rfl dX3_givesWay_35

theorem in_h_greatest_X3 : ∀ w ∈ wsX30, w ∈ wsX3_greatestOn := tl_X3_greatestOn_X3
set_option maxHeartbeats 8000000 in
set_option maxRecDepth 100000 in
theorem h_greatest {l : Launch} {D : va_G} {cI cZ cB : ClassId} {h a_falls a_ranks a_standsOn a_heldOn a_holder a_standing : Nat} {v_size : Int32} {f_falls f_ranks f_standsOn : Nat → Int32} {y : Int32} (hv_size0 : 0 ≤ v_size.toInt) (hv_size1 : v_size.toInt ≤ 40) (hy0 : 0 ≤ y.toInt) (hy1 : y.toInt < 365) : Met l yX3_greatestOn wsX3_greatestOn ({ frames := 1, cells := 0, slots := 0, locals := 23 }) (RO D cI cZ cB [.ref h, .int y] [(h, .inr (3, [.ref a_falls, .ref a_ranks, .ref a_standsOn, .ref a_heldOn, .ref a_holder, .ref a_standing, .int v_size])), (a_falls, .inl (cI, 40, .inl f_falls)), (a_ranks, .inl (cI, 40, .inl f_ranks)), (a_standsOn, .inl (cI, 40, .inl f_standsOn))]) (vp_Si (fun r : Int32 => IsPick (okSt f_standsOn y.toNatClampNeg) (keyF f_falls f_ranks y.toNatClampNeg) v_size.toInt r)) 0 0 (fun _ => False) := by
  refine ro_ret (cc := cX3_greatestOn) (maxL := 4) (ty := .int) (own := RX3) (by decide) rfl rfl (Nat.le_of_ble_eq_true rfl) ?_
  intro p e s m args below meth c Q S hret hP hK ls hl
  obtain ⟨hx, hb, hml, hown, hts⟩ := id S
  have hl : lv_has ls 4 [(0, .ref h), (1, .int y)] := hl
  have kkm1 : (-1 : Int32).toInt = -1 := by decide
  have kk0 : (0 : Int32).toInt = 0 := by decide
  have kk1 : (1 : Int32).toInt = 1 := by decide
  have lk0 := hts (.fieldLink RX3 30 "AbbeyHours$Feasts" "size" "I") (List.mem_cons_of_mem _ (List.mem_append_left _ (List.mem_of_getElem? (i := 0) rfl)))
  have lk1 := hts (.fieldLink RX3 18 "AbbeyHours$Feasts" "standsOn" "[I") (List.mem_cons_of_mem _ (List.mem_append_left _ (List.mem_of_getElem? (i := 1) rfl)))
  have hcy := t_cl (x := y) (by omega)
  refine lv_iconst (v := (-1)) hx hb dX3_greatestOn_0 (by decide) ?_
  refine lv_istore_n (lv' := [(2, .int (-1)), (0, .ref h), (1, .int y)]) hx hb dX3_greatestOn_1 rfl hl (by decide) rfl (fun ls hl => ?_)
  refine lv_iconst (v := 0) hx hb dX3_greatestOn_2 (by decide) ?_
  refine lv_istore_n (lv' := [(3, .int 0), (2, .int (-1)), (0, .ref h), (1, .int y)]) hx hb dX3_greatestOn_3 rfl hl (by decide) rfl (fun ls hl => ?_)
  have loop4 : ∀ (fuel : Nat) (a : Int32) (j : Int32), v_size.toInt - j.toInt < (fuel : Int) → (0 ≤ j.toInt) → (j.toInt ≤ v_size.toInt) → (IsPick (okSt f_standsOn y.toNatClampNeg) (keyF f_falls f_ranks y.toNatClampNeg) j.toInt a) → ∀ ls : Array Slot, lv_has ls 4 [(3, .int j), (2, .int a), (0, .ref h), (1, .int y)] → W p l e ({ frames := 1, cells := 0, slots := 0, locals := 23 } : Room) s m args below meth c s.heap [] 0 0 Q (F0 m 4 ls []) := by
    intro fuel
    induction fuel with
    | zero =>
      intro a j hmu hj0 hj1 hpk ls hl
      exfalso; omega
    | succ fuel ih4 =>
      intro a j hmu hj0 hj1 hpk ls hl
      have ha := hpk.rg
      refine lv_iload_n hx hb dX3_greatestOn_4 rfl (lv_at hl 0 rfl) ?_
      refine lv_aload_n hx hb dX3_greatestOn_5 rfl (lv_at hl 2 rfl) ?_
      refine va_get (D := D) (ci := 3) (v := .int v_size) (C := RX3) (T := TX3) (N := 7) hx hb hts in_h_greatest_X3 hown hK.1 hP 0 rfl rfl 6 (by decide) lk0 (fun _ h9 => h9) rfl dX3_greatestOn_6 ?_
      refine lv_icmp_ge (tgt := 45) hx hb dX3_greatestOn_9 (by decide) (fun c_1 => ?_) (fun c_1 => ?_)
      · have tc_1 := t_le c_1
        refine lv_iload_n hx hb dX3_greatestOn_45 rfl (lv_at hl 1 rfl) ?_
        exact hret a _ _ (show IsPick (okSt f_standsOn y.toNatClampNeg) (keyF f_falls f_ranks y.toNatClampNeg) v_size.toInt a from by rw [show v_size.toInt = j.toInt by omega]; exact hpk) rfl dX3_greatestOn_46
      · have tc_1 := t_nle c_1
        refine lv_aload_n hx hb dX3_greatestOn_12 rfl (lv_at hl 2 rfl) ?_
        refine va_get (D := D) (ci := 3) (v := .ref a_standsOn) (C := RX3) (T := TX3) (N := 7) hx hb hts in_h_greatest_X3 hown hK.1 hP 0 rfl rfl 2 (by decide) lk1 (fun _ h9 => h9) rfl dX3_greatestOn_13 ?_
        refine lv_iload_n hx hb dX3_greatestOn_16 rfl (lv_at hl 0 rfl) ?_
        refine va_iald hx hb hK.1 hP 3 0 rfl rfl (t_in (by omega) (by omega)) dX3_greatestOn_17 ?_
        refine lv_topi (fun ys eys => ?_)
        refine lv_iload_n hx hb dX3_greatestOn_18 rfl (lv_at hl 3 rfl) ?_
        refine lv_icmp_ne (tgt := 39) hx hb dX3_greatestOn_19 (by decide) (fun c_3 => ?_) (fun c_3 => ?_)
        · have tc_3 := t_neq c_3
          obtain ⟨x_4, ex_4⟩ : ∃ y : Int32, y = j + 1 := ⟨_, rfl⟩
          refine lv_iinc (v := x_4) (lv' := [(3, .int x_4), (2, .int a), (0, .ref h), (1, .int y)]) hx hb dX3_greatestOn_39 hl (k := 0) rfl (by rw [ex_4]; rfl) (by decide) rfl (fun ls hl => ?_)
          first | have tx_4 := t_add ex_4 (by omega) (by omega) | skip
          refine lv_goto (tgt := 4) hx hb dX3_greatestOn_42 (by decide) ?_
          exact ih4 a x_4 (by omega) (by omega) (by omega) (by first | exact hpk.take (by omega) (by omega) (by show (f_standsOn _).toInt = _; rw [← eys]; omega) (by first | exact Or.inl (by omega) | exact Or.inr (if1 hw_gw (by omega))) | exact hpk.skip (by omega) (by omega) (fun h => by have h : (f_standsOn j.toNatClampNeg).toInt = (y.toNatClampNeg : Int) := h; rw [← eys] at h; omega) | exact hpk.keep (by omega) (by omega) (by omega) (Int.not_lt.mp (if0 hw_gw (by omega)))) ls (lv_sub hl [0, 1, 2, 3] rfl)
        · have tc_3 := t_eq c_3
          refine lv_iload_n hx hb dX3_greatestOn_22 rfl (lv_at hl 1 rfl) ?_
          refine lv_iconst (v := (-1)) hx hb dX3_greatestOn_23 (by decide) ?_
          refine lv_icmp_eq (tgt := 37) hx hb dX3_greatestOn_24 (by decide) (fun c_5 => ?_) (fun c_5 => ?_)
          · have tc_5 := t_eq c_5
            refine lv_iload_n hx hb dX3_greatestOn_37 rfl (lv_at hl 0 rfl) ?_
            refine lv_istore_n (lv' := [(2, .int j), (3, .int j), (0, .ref h), (1, .int y)]) hx hb dX3_greatestOn_38 rfl hl (by decide) rfl (fun ls hl => ?_)
            obtain ⟨x_6, ex_6⟩ : ∃ y : Int32, y = j + 1 := ⟨_, rfl⟩
            refine lv_iinc (v := x_6) (lv' := [(3, .int x_6), (2, .int j), (0, .ref h), (1, .int y)]) hx hb dX3_greatestOn_39 hl (k := 1) rfl (by rw [ex_6]; rfl) (by decide) rfl (fun ls hl => ?_)
            first | have tx_6 := t_add ex_6 (by omega) (by omega) | skip
            refine lv_goto (tgt := 4) hx hb dX3_greatestOn_42 (by decide) ?_
            exact ih4 j x_6 (by omega) (by omega) (by omega) (by first | exact hpk.take (by omega) (by omega) (by show (f_standsOn _).toInt = _; rw [← eys]; omega) (by first | exact Or.inl (by omega) | exact Or.inr (if1 hw_gw (by omega))) | exact hpk.skip (by omega) (by omega) (fun h => by have h : (f_standsOn j.toNatClampNeg).toInt = (y.toNatClampNeg : Int) := h; rw [← eys] at h; omega) | exact hpk.keep (by omega) (by omega) (by omega) (Int.not_lt.mp (if0 hw_gw (by omega)))) ls (lv_sub hl [0, 1, 2, 3] rfl)
          · have tc_5 := t_neq c_5
            refine lv_aload_n hx hb dX3_greatestOn_27 rfl (lv_at hl 2 rfl) ?_
            refine lv_iload_n hx hb dX3_greatestOn_28 rfl (lv_at hl 1 rfl) ?_
            refine lv_iload_n hx hb dX3_greatestOn_29 rfl (lv_at hl 0 rfl) ?_
            refine lv_iload_n hx hb dX3_greatestOn_30 rfl (lv_at hl 3 rfl) ?_
            have hPc := hP.sub (ws' := [(h, .inr (3, [.ref a_falls, .ref a_ranks, .ref a_standsOn, .ref a_heldOn, .ref a_holder, .ref a_standing, .int v_size])), (a_falls, .inl (cI, 40, .inl f_falls)), (a_ranks, .inl (cI, 40, .inl f_ranks))]) [0, 1, 2] rfl
            refine roV (As := [.int a, .int j, .int y]) (rest := []) S (h_gives  (by omega) (by omega) (by omega) (by omega) (by omega)) (cwV 3 hts gX3_greatestOn_X3_givesWay rfl rfl rfl ⟨rfl, hd_X3_givesWay⟩ ⟨Nat.le_of_ble_eq_true rfl, Nat.le_of_ble_eq_true rfl⟩) hK hPc (va_recv hK.1 hPc (ci := 3) (q0 := 0) rfl rfl) rfl hl.1 rfl (Nat.le_of_ble_eq_true rfl) dX3_greatestOn_31 ⟨Nat.le_of_ble_eq_true rfl, Nat.le_of_ble_eq_true rfl⟩ (fun r_gw hw_gw => ?_)
            have hw_gw : (r_gw.toInt = 1 ∧ keyF f_falls f_ranks y.toNatClampNeg j.toNatClampNeg < keyF f_falls f_ranks y.toNatClampNeg a.toNatClampNeg) ∨ (r_gw.toInt = 0 ∧ ¬ keyF f_falls f_ranks y.toNatClampNeg j.toNatClampNeg < keyF f_falls f_ranks y.toNatClampNeg a.toNatClampNeg) := hw_gw
            have h1_gw := if01 hw_gw
            refine lv_if_eq (tgt := 39) hx hb dX3_greatestOn_34 (by decide) (fun c_7 => ?_) (fun c_7 => ?_)
            · have tc_7 := t_eq c_7
              obtain ⟨x_8, ex_8⟩ : ∃ y : Int32, y = j + 1 := ⟨_, rfl⟩
              refine lv_iinc (v := x_8) (lv' := [(3, .int x_8), (2, .int a), (0, .ref h), (1, .int y)]) hx hb dX3_greatestOn_39 hl (k := 0) rfl (by rw [ex_8]; rfl) (by decide) rfl (fun ls hl => ?_)
              first | have tx_8 := t_add ex_8 (by omega) (by omega) | skip
              refine lv_goto (tgt := 4) hx hb dX3_greatestOn_42 (by decide) ?_
              exact ih4 a x_8 (by omega) (by omega) (by omega) (by first | exact hpk.take (by omega) (by omega) (by show (f_standsOn _).toInt = _; rw [← eys]; omega) (by first | exact Or.inl (by omega) | exact Or.inr (if1 hw_gw (by omega))) | exact hpk.skip (by omega) (by omega) (fun h => by have h : (f_standsOn j.toNatClampNeg).toInt = (y.toNatClampNeg : Int) := h; rw [← eys] at h; omega) | exact hpk.keep (by omega) (by omega) (by omega) (Int.not_lt.mp (if0 hw_gw (by omega)))) ls (lv_sub hl [0, 1, 2, 3] rfl)
            · have tc_7 := t_neq c_7
              refine lv_iload_n hx hb dX3_greatestOn_37 rfl (lv_at hl 0 rfl) ?_
              refine lv_istore_n (lv' := [(2, .int j), (3, .int j), (0, .ref h), (1, .int y)]) hx hb dX3_greatestOn_38 rfl hl (by decide) rfl (fun ls hl => ?_)
              obtain ⟨x_9, ex_9⟩ : ∃ y : Int32, y = j + 1 := ⟨_, rfl⟩
              refine lv_iinc (v := x_9) (lv' := [(3, .int x_9), (2, .int j), (0, .ref h), (1, .int y)]) hx hb dX3_greatestOn_39 hl (k := 1) rfl (by rw [ex_9]; rfl) (by decide) rfl (fun ls hl => ?_)
              first | have tx_9 := t_add ex_9 (by omega) (by omega) | skip
              refine lv_goto (tgt := 4) hx hb dX3_greatestOn_42 (by decide) ?_
              exact ih4 j x_9 (by omega) (by omega) (by omega) (by first | exact hpk.take (by omega) (by omega) (by show (f_standsOn _).toInt = _; rw [← eys]; omega) (by first | exact Or.inl (by omega) | exact Or.inr (if1 hw_gw (by omega))) | exact hpk.skip (by omega) (by omega) (fun h => by have h : (f_standsOn j.toNatClampNeg).toInt = (y.toNatClampNeg : Int) := h; rw [← eys] at h; omega) | exact hpk.keep (by omega) (by omega) (by omega) (Int.not_lt.mp (if0 hw_gw (by omega)))) ls (lv_sub hl [0, 1, 2, 3] rfl)
  exact loop4 ((v_size.toInt - (0 : Int32).toInt).toNat + 1) (-1) 0 (by omega) (by omega) (by omega) (IsPick.zero (by omega) (by omega)) ls (lv_sub hl [0, 1, 2, 3] rfl)

theorem in_h_stand_X3 : ∀ w ∈ wsX30, w ∈ wsX3_stand := tl_X3_stand_X3
set_option maxHeartbeats 8000000 in
set_option maxRecDepth 100000 in
theorem h_stand {l : Launch} {D : va_G} {cI cZ cB : ClassId} {sz : Nat} {h a_falls a_ranks a_standsOn a_heldOn a_holder a_standing : Nat} {v_size : Int32} {f_standsOn f_standing : Nat → Int32} {i y : Int32} (hi0 : 0 ≤ i.toInt) (hi1 : i.toInt < 40) (hy0 : 0 ≤ y.toInt) : Met l yX3_stand wsX3_stand ({ frames := 0, cells := 0, slots := 0, locals := 0 }) (RW D cI cZ cB [.ref h, .int i, .int y] sz [(h, .inr (3, [.ref a_falls, .ref a_ranks, .ref a_standsOn, .ref a_heldOn, .ref a_holder, .ref a_standing, .int v_size])), (a_standsOn, .inl (cI, 40, .inl f_standsOn)), (a_standing, .inl (cI, 365, .inl f_standing))]) (va_Qv (fun u : (Nat → Int32) × (Nat → Int32) => u.1 = upd f_standsOn i.toNatClampNeg y ∧ ((y.toInt < 365 ∧ u.2 = upd f_standing y.toNatClampNeg (f_standing y.toNatClampNeg + 1)) ∨ (365 ≤ y.toInt ∧ u.2 = f_standing))) (BW D [(h, .inr (3, [.ref a_falls, .ref a_ranks, .ref a_standsOn, .ref a_heldOn, .ref a_holder, .ref a_standing, .int v_size])), (a_standsOn, .inl (cI, 40, .inl f_standsOn)), (a_standing, .inl (cI, 365, .inl f_standing))] sz (fun u : (Nat → Int32) × (Nat → Int32) => [(h, .inr (3, [.ref a_falls, .ref a_ranks, .ref a_standsOn, .ref a_heldOn, .ref a_holder, .ref a_standing, .int v_size])), (a_standsOn, .inl (cI, 40, .inl u.1)), (a_standing, .inl (cI, 365, .inl u.2))])) (va_A [(h, .inr (3, [.ref a_falls, .ref a_ranks, .ref a_standsOn, .ref a_heldOn, .ref a_holder, .ref a_standing, .int v_size])), (a_standsOn, .inl (cI, 40, .inl f_standsOn)), (a_standing, .inl (cI, 365, .inl f_standing))] sz)) 0 (0) (va_A [(h, .inr (3, [.ref a_falls, .ref a_ranks, .ref a_standsOn, .ref a_heldOn, .ref a_holder, .ref a_standing, .int v_size])), (a_standsOn, .inl (cI, 40, .inl f_standsOn)), (a_standing, .inl (cI, 365, .inl f_standing))] sz) := by
  refine rw_retv (cc := cX3_stand) (maxL := 3) (own := RX3) (by decide) rfl rfl (Nat.le_of_ble_eq_true rfl) ?_
  intro p e s m args below meth c Q A S hin hret hP hK hD hA hS ls hl
  obtain ⟨hx, hb, hml, hown, hts⟩ := id S
  have hl : lv_has ls 3 [(0, .ref h), (1, .int i), (2, .int y)] := hl
  have kk0 : (0 : Int32).toInt = 0 := by decide
  have kk1 : (1 : Int32).toInt = 1 := by decide
  have kk365 : (365 : Int32).toInt = 365 := by decide
  have lk0 := hts (.fieldLink RX3 18 "AbbeyHours$Feasts" "standsOn" "[I") (List.mem_cons_of_mem _ (List.mem_append_left _ (List.mem_of_getElem? (i := 0) rfl)))
  have lk1 := hts (.fieldLink RX3 27 "AbbeyHours$Feasts" "standing" "[I") (List.mem_cons_of_mem _ (List.mem_append_left _ (List.mem_of_getElem? (i := 1) rfl)))
  refine lv_aload_n hx hb dX3_stand_0 rfl (lv_at hl 0 rfl) ?_
  refine va_get (D := D) (ci := 3) (v := .ref a_standsOn) (C := RX3) (T := TX3) (N := 7) hx hb hts in_h_stand_X3 hown hK.1 hP 0 rfl rfl 2 (by decide) lk0 (fun _ h9 => h9) rfl dX3_stand_1 ?_
  refine lv_iload_n hx hb dX3_stand_4 rfl (lv_at hl 1 rfl) ?_
  refine lv_iload_n hx hb dX3_stand_5 rfl (lv_at hl 2 rfl) ?_
  refine va_iast hx hb hK.1 hP hD hS 1 0 rfl rfl (t_in (by omega) (by omega)) dX3_stand_6 (fun H locs hP hD hS => ?_)
  obtain ⟨ga, ega⟩ : ∃ z : Nat → Int32, z = upd f_standsOn ((i : Int32).toNatClampNeg) y := ⟨_, rfl⟩
  rw [← ega] at hP hD
  have hP : va_P D vwCl [(h, .inr (3, [.ref a_falls, .ref a_ranks, .ref a_standsOn, .ref a_heldOn, .ref a_holder, .ref a_standing, .int v_size])), (a_standsOn, .inl (cI, 40, .inl ga)), (a_standing, .inl (cI, 365, .inl f_standing))] H := hP
  have hD := asD hP hD
  refine lv_iload_n hx hb dX3_stand_7 rfl (lv_at hl 2 rfl) ?_
  refine lv_sipush (v := 365) hx hb dX3_stand_8 (by decide) ?_
  refine lv_icmp_ge (tgt := 24) hx hb dX3_stand_11 (by decide) (fun c_2 => ?_) (fun c_2 => ?_)
  · have tc_2 := t_le c_2
    exact hret (ga, f_standing) _ _ _ _ (show ga = upd f_standsOn i.toNatClampNeg y ∧ ((y.toInt < 365 ∧ f_standing = upd f_standing y.toNatClampNeg (f_standing y.toNatClampNeg + 1)) ∨ (365 ≤ y.toInt ∧ f_standing = f_standing)) from by first | exact ⟨ega, Or.inl ⟨by omega, by rw [egb, ezv, eyv]⟩⟩ | exact ⟨ega, Or.inr ⟨by omega, rfl⟩⟩) (hP.sub [0, 1, 2] rfl) (hD.sub [0, 1, 2] (by decide +kernel) rfl) hS dX3_stand_24
  · have tc_2 := t_nle c_2
    refine lv_aload_n hx hb dX3_stand_14 rfl (lv_at hl 0 rfl) ?_
    refine va_get (D := D) (ci := 3) (v := .ref a_standing) (C := RX3) (T := TX3) (N := 7) hx hb hts in_h_stand_X3 hown hK.1 hP 0 rfl rfl 5 (by decide) lk1 (fun _ h9 => h9) rfl dX3_stand_15 ?_
    refine lv_iload_n hx hb dX3_stand_18 rfl (lv_at hl 2 rfl) ?_
    refine lv_dup2_11 hx hb dX3_stand_19 rfl rfl ?_
    refine va_iald hx hb hK.1 hP 2 0 rfl rfl (t_in (by omega) (by omega)) dX3_stand_20 ?_
    refine lv_topi (fun yv eyv => ?_)
    refine lv_iconst (v := 1) hx hb dX3_stand_21 (by decide) ?_
    refine lv_iadd hx hb dX3_stand_22 ?_
    refine lv_topi (fun zv ezv => ?_)
    refine va_iast hx hb hK.1 hP hD hS 2 0 rfl rfl (t_in (by omega) (by omega)) dX3_stand_23 (fun H locs hP hD hS => ?_)
    obtain ⟨gb, egb⟩ : ∃ z : Nat → Int32, z = upd f_standing ((y : Int32).toNatClampNeg) zv := ⟨_, rfl⟩
    rw [← egb] at hP hD
    have hP : va_P D vwCl [(h, .inr (3, [.ref a_falls, .ref a_ranks, .ref a_standsOn, .ref a_heldOn, .ref a_holder, .ref a_standing, .int v_size])), (a_standsOn, .inl (cI, 40, .inl ga)), (a_standing, .inl (cI, 365, .inl gb))] H := hP
    have hD := asD hP hD
    exact hret (ga, gb) _ _ _ _ (show ga = upd f_standsOn i.toNatClampNeg y ∧ ((y.toInt < 365 ∧ gb = upd f_standing y.toNatClampNeg (f_standing y.toNatClampNeg + 1)) ∨ (365 ≤ y.toInt ∧ gb = f_standing)) from by first | exact ⟨ega, Or.inl ⟨by omega, by rw [egb, ezv, eyv]⟩⟩ | exact ⟨ega, Or.inr ⟨by omega, rfl⟩⟩) (hP.sub [0, 1, 2] rfl) (hD.sub [0, 1, 2] (by decide +kernel) rfl) hS dX3_stand_24

theorem in_h_hold_X3 : ∀ w ∈ wsX30, w ∈ wsX3_hold := tl_X3_hold_X3
set_option maxHeartbeats 8000000 in
set_option maxRecDepth 100000 in
theorem h_hold {l : Launch} {D : va_G} {cI cZ cB : ClassId} {sz : Nat} {h a_falls a_ranks a_standsOn a_heldOn a_holder a_standing : Nat} {v_size : Int32} {f_falls f_ranks f_standsOn f_heldOn f_holder f_standing : Nat → Int32} {y : Int32} (hv_size0 : 0 ≤ v_size.toInt) (hv_size1 : v_size.toInt ≤ 40) (hy0 : 0 ≤ y.toInt) (hy1 : y.toInt < 365) (hfe : FeP f_falls f_ranks f_standsOn f_heldOn f_holder f_standing v_size.toInt y.toNatClampNeg) : Met l yX3_hold wsX3_hold ({ frames := 2, cells := 0, slots := 0, locals := 46 }) (RW D cI cZ cB [.ref h, .int y] sz [(h, .inr (3, [.ref a_falls, .ref a_ranks, .ref a_standsOn, .ref a_heldOn, .ref a_holder, .ref a_standing, .int v_size])), (a_falls, .inl (cI, 40, .inl f_falls)), (a_ranks, .inl (cI, 40, .inl f_ranks)), (a_standsOn, .inl (cI, 40, .inl f_standsOn)), (a_heldOn, .inl (cI, 40, .inl f_heldOn)), (a_holder, .inl (cI, 365, .inl f_holder)), (a_standing, .inl (cI, 365, .inl f_standing))]) (va_Qv (fun u : (Nat → Int32) × (Nat → Int32) × (Nat → Int32) × (Nat → Int32) => FeP f_falls f_ranks u.1 u.2.1 u.2.2.1 u.2.2.2 v_size.toInt (y.toNatClampNeg + 1)) (BW D [(h, .inr (3, [.ref a_falls, .ref a_ranks, .ref a_standsOn, .ref a_heldOn, .ref a_holder, .ref a_standing, .int v_size])), (a_falls, .inl (cI, 40, .inl f_falls)), (a_ranks, .inl (cI, 40, .inl f_ranks)), (a_standsOn, .inl (cI, 40, .inl f_standsOn)), (a_heldOn, .inl (cI, 40, .inl f_heldOn)), (a_holder, .inl (cI, 365, .inl f_holder)), (a_standing, .inl (cI, 365, .inl f_standing))] sz (fun u : (Nat → Int32) × (Nat → Int32) × (Nat → Int32) × (Nat → Int32) => [(h, .inr (3, [.ref a_falls, .ref a_ranks, .ref a_standsOn, .ref a_heldOn, .ref a_holder, .ref a_standing, .int v_size])), (a_falls, .inl (cI, 40, .inl f_falls)), (a_ranks, .inl (cI, 40, .inl f_ranks)), (a_standsOn, .inl (cI, 40, .inl u.1)), (a_heldOn, .inl (cI, 40, .inl u.2.1)), (a_holder, .inl (cI, 365, .inl u.2.2.1)), (a_standing, .inl (cI, 365, .inl u.2.2.2))])) (va_A [(h, .inr (3, [.ref a_falls, .ref a_ranks, .ref a_standsOn, .ref a_heldOn, .ref a_holder, .ref a_standing, .int v_size])), (a_falls, .inl (cI, 40, .inl f_falls)), (a_ranks, .inl (cI, 40, .inl f_ranks)), (a_standsOn, .inl (cI, 40, .inl f_standsOn)), (a_heldOn, .inl (cI, 40, .inl f_heldOn)), (a_holder, .inl (cI, 365, .inl f_holder)), (a_standing, .inl (cI, 365, .inl f_standing))] sz)) 0 (0) (va_A [(h, .inr (3, [.ref a_falls, .ref a_ranks, .ref a_standsOn, .ref a_heldOn, .ref a_holder, .ref a_standing, .int v_size])), (a_falls, .inl (cI, 40, .inl f_falls)), (a_ranks, .inl (cI, 40, .inl f_ranks)), (a_standsOn, .inl (cI, 40, .inl f_standsOn)), (a_heldOn, .inl (cI, 40, .inl f_heldOn)), (a_holder, .inl (cI, 365, .inl f_holder)), (a_standing, .inl (cI, 365, .inl f_standing))] sz) := by
  refine rw_retv (cc := cX3_hold) (maxL := 4) (own := RX3) (by decide) rfl rfl (Nat.le_of_ble_eq_true rfl) ?_
  intro p e s m args below meth c Q A S hin hret hP hK hD hA hS ls hl
  obtain ⟨hx, hb, hml, hown, hts⟩ := id S
  have hl : lv_has ls 4 [(0, .ref h), (1, .int y)] := hl
  have kkm1 : (-1 : Int32).toInt = -1 := by decide
  have kk0 : (0 : Int32).toInt = 0 := by decide
  have kk1 : (1 : Int32).toInt = 1 := by decide
  have kk2 : (2 : Int32).toInt = 2 := by decide
  have lk0 := hts (.fieldLink RX3 24 "AbbeyHours$Feasts" "holder" "[I") (List.mem_cons_of_mem _ (List.mem_append_left _ (List.mem_of_getElem? (i := 0) rfl)))
  have lk1 := hts (.fieldLink RX3 21 "AbbeyHours$Feasts" "heldOn" "[I") (List.mem_cons_of_mem _ (List.mem_append_left _ (List.mem_of_getElem? (i := 1) rfl)))
  have lk2 := hts (.fieldLink RX3 30 "AbbeyHours$Feasts" "size" "I") (List.mem_cons_of_mem _ (List.mem_append_left _ (List.mem_of_getElem? (i := 2) rfl)))
  have lk3 := hts (.fieldLink RX3 18 "AbbeyHours$Feasts" "standsOn" "[I") (List.mem_cons_of_mem _ (List.mem_append_left _ (List.mem_of_getElem? (i := 3) rfl)))
  have lk4 := hts (.fieldLink RX3 15 "AbbeyHours$Feasts" "ranks" "[I") (List.mem_cons_of_mem _ (List.mem_append_left _ (List.mem_of_getElem? (i := 4) rfl)))
  have hcy := t_cl (x := y) (by omega)
  refine lv_aload_n hx hb dX3_hold_0 rfl (lv_at hl 0 rfl) ?_
  refine lv_iload_n hx hb dX3_hold_1 rfl (lv_at hl 1 rfl) ?_
  have hPc := hP.sub (ws' := [(h, .inr (3, [.ref a_falls, .ref a_ranks, .ref a_standsOn, .ref a_heldOn, .ref a_holder, .ref a_standing, .int v_size])), (a_falls, .inl (cI, 40, .inl f_falls)), (a_ranks, .inl (cI, 40, .inl f_ranks)), (a_standsOn, .inl (cI, 40, .inl f_standsOn))]) [0, 1, 2, 3] rfl
  refine roV (As := [.int y]) (rest := []) S (h_greatest  (by omega) (by omega) (by omega) (by omega)) (cwV 1 hts gX3_hold_X3_greatestOn rfl rfl rfl ⟨rfl, hd_X3_greatestOn⟩ ⟨Nat.le_of_ble_eq_true rfl, Nat.le_of_ble_eq_true rfl⟩) hK hPc (va_recv hK.1 hPc (ci := 3) (q0 := 0) rfl rfl) rfl hl.1 rfl (Nat.le_of_ble_eq_true rfl) dX3_hold_2 ⟨Nat.le_of_ble_eq_true rfl, Nat.le_of_ble_eq_true rfl⟩ (fun r_gr hw_gr => ?_)
  have hw_gr : IsPick (okSt f_standsOn y.toNatClampNeg) (keyF f_falls f_ranks y.toNatClampNeg) v_size.toInt r_gr := hw_gr
  have hgr := hw_gr.rg
  refine lv_istore_n (lv' := [(2, .int r_gr), (0, .ref h), (1, .int y)]) hx hb dX3_hold_5 rfl hl (by decide) rfl (fun ls hl => ?_)
  refine lv_iload_n hx hb dX3_hold_6 rfl (lv_at hl 0 rfl) ?_
  refine lv_iconst (v := (-1)) hx hb dX3_hold_7 (by decide) ?_
  refine lv_icmp_ne (tgt := 12) hx hb dX3_hold_8 (by decide) (fun c_1 => ?_) (fun c_1 => ?_)
  · have tc_1 := t_neq c_1
    refine lv_aload_n hx hb dX3_hold_12 rfl (lv_at hl 1 rfl) ?_
    refine va_get (D := D) (ci := 3) (v := .ref a_holder) (C := RX3) (T := TX3) (N := 7) hx hb hts in_h_hold_X3 hown hK.1 hP 0 rfl rfl 4 (by decide) lk0 (fun _ h9 => h9) rfl dX3_hold_13 ?_
    refine lv_iload_n hx hb dX3_hold_16 rfl (lv_at hl 2 rfl) ?_
    refine lv_iload_n hx hb dX3_hold_17 rfl (lv_at hl 0 rfl) ?_
    refine va_iast hx hb hK.1 hP hD hS 5 0 rfl rfl (t_in (by omega) (by omega)) dX3_hold_18 (fun H locs hP hD hS => ?_)
    obtain ⟨gh, egh⟩ : ∃ z : Nat → Int32, z = upd f_holder ((y : Int32).toNatClampNeg) r_gr := ⟨_, rfl⟩
    rw [← egh] at hP hD
    have hP : va_P D vwCl [(h, .inr (3, [.ref a_falls, .ref a_ranks, .ref a_standsOn, .ref a_heldOn, .ref a_holder, .ref a_standing, .int v_size])), (a_falls, .inl (cI, 40, .inl f_falls)), (a_ranks, .inl (cI, 40, .inl f_ranks)), (a_standsOn, .inl (cI, 40, .inl f_standsOn)), (a_heldOn, .inl (cI, 40, .inl f_heldOn)), (a_holder, .inl (cI, 365, .inl gh)), (a_standing, .inl (cI, 365, .inl f_standing))] H := hP
    have hD := asD hP hD
    refine lv_aload_n hx hb dX3_hold_19 rfl (lv_at hl 1 rfl) ?_
    refine va_get (D := D) (ci := 3) (v := .ref a_heldOn) (C := RX3) (T := TX3) (N := 7) hx hb hts in_h_hold_X3 hown hK.1 hP 0 rfl rfl 3 (by decide) lk1 (fun _ h9 => h9) rfl dX3_hold_20 ?_
    refine lv_iload_n hx hb dX3_hold_23 rfl (lv_at hl 0 rfl) ?_
    refine lv_iload_n hx hb dX3_hold_24 rfl (lv_at hl 2 rfl) ?_
    refine va_iast hx hb hK.1 hP hD hS 4 0 rfl rfl (t_in (by omega) (by omega)) dX3_hold_25 (fun H locs hP hD hS => ?_)
    obtain ⟨go, ego⟩ : ∃ z : Nat → Int32, z = upd f_heldOn ((r_gr : Int32).toNatClampNeg) y := ⟨_, rfl⟩
    rw [← ego] at hP hD
    have hP : va_P D vwCl [(h, .inr (3, [.ref a_falls, .ref a_ranks, .ref a_standsOn, .ref a_heldOn, .ref a_holder, .ref a_standing, .int v_size])), (a_falls, .inl (cI, 40, .inl f_falls)), (a_ranks, .inl (cI, 40, .inl f_ranks)), (a_standsOn, .inl (cI, 40, .inl f_standsOn)), (a_heldOn, .inl (cI, 40, .inl go)), (a_holder, .inl (cI, 365, .inl gh)), (a_standing, .inl (cI, 365, .inl f_standing))] H := hP
    have hD := asD hP hD
    refine lv_iconst (v := 0) hx hb dX3_hold_26 (by decide) ?_
    refine lv_istore_n (lv' := [(3, .int 0), (2, .int r_gr), (0, .ref h), (1, .int y)]) hx hb dX3_hold_27 rfl hl (by decide) rfl (fun ls hl => ?_)
    have loop28 : ∀ (fuel : Nat) (j : Int32) (fs : Nat → Int32) (fg : Nat → Int32), v_size.toInt - j.toInt < (fuel : Int) → (0 ≤ j.toInt) → (j.toInt ≤ v_size.toInt) → (HoldL f_ranks f_standsOn f_standing r_gr y.toNatClampNeg j.toInt fs fg) → ∀ (H : Heap) (locs : List Loc), va_P D vwCl [(h, .inr (3, [.ref a_falls, .ref a_ranks, .ref a_standsOn, .ref a_heldOn, .ref a_holder, .ref a_standing, .int v_size])), (a_falls, .inl (cI, 40, .inl f_falls)), (a_ranks, .inl (cI, 40, .inl f_ranks)), (a_standsOn, .inl (cI, 40, .inl fs)), (a_heldOn, .inl (cI, 40, .inl go)), (a_holder, .inl (cI, 365, .inl gh)), (a_standing, .inl (cI, 365, .inl fg))] H → va_D A [(h, .inr (3, [.ref a_falls, .ref a_ranks, .ref a_standsOn, .ref a_heldOn, .ref a_holder, .ref a_standing, .int v_size])), (a_falls, .inl (cI, 40, .inl f_falls)), (a_ranks, .inl (cI, 40, .inl f_ranks)), (a_standsOn, .inl (cI, 40, .inl fs)), (a_heldOn, .inl (cI, 40, .inl go)), (a_holder, .inl (cI, 365, .inl gh)), (a_standing, .inl (cI, 365, .inl fg))] → va_S A s.heap H locs → ∀ ls : Array Slot, lv_has ls 4 [(3, .int j), (2, .int r_gr), (0, .ref h), (1, .int y)] → W p l e ({ frames := 2, cells := 0, slots := 0, locals := 46 } : Room) s m args below meth c H locs 0 (0) Q (F0 m 28 ls []) := by
      intro fuel
      induction fuel with
      | zero =>
        intro j fs fg hmu hj0 hj1 hhl H locs hP hD hS ls hl
        exfalso; omega
      | succ fuel ih28 =>
        intro j fs fg hmu hj0 hj1 hhl H locs hP hD hS ls hl
        refine lv_iload_n hx hb dX3_hold_28 rfl (lv_at hl 0 rfl) ?_
        refine lv_aload_n hx hb dX3_hold_29 rfl (lv_at hl 2 rfl) ?_
        refine va_get (D := D) (ci := 3) (v := .int v_size) (C := RX3) (T := TX3) (N := 7) hx hb hts in_h_hold_X3 hown hK.1 hP 0 rfl rfl 6 (by decide) lk2 (fun _ h9 => h9) rfl dX3_hold_30 ?_
        refine lv_icmp_ge (tgt := 75) hx hb dX3_hold_33 (by decide) (fun c_4 => ?_) (fun c_4 => ?_)
        · have tc_4 := t_le c_4
          exact hret (fs, go, gh, fg) _ _ _ _ (show FeP f_falls f_ranks fs go gh fg v_size.toInt (y.toNatClampNeg + 1) from by rw [egh, ego]; exact hfe.hold (by omega) (by omega) hw_gr (by omega) (by omega) (by rw [show v_size.toInt = j.toInt by omega]; exact hhl)) (hP.sub [0, 1, 2, 3, 4, 5, 6] rfl) (hD.sub [0, 1, 2, 3, 4, 5, 6] (by decide +kernel) rfl) hS dX3_hold_75
        · have tc_4 := t_nle c_4
          refine lv_iload_n hx hb dX3_hold_36 rfl (lv_at hl 0 rfl) ?_
          refine lv_iload_n hx hb dX3_hold_37 rfl (lv_at hl 1 rfl) ?_
          refine lv_icmp_eq (tgt := 69) hx hb dX3_hold_38 (by decide) (fun cg => ?_) (fun cg => ?_)
          · have tcg := t_eq cg
            obtain ⟨x_6, ex_6⟩ : ∃ y : Int32, y = j + 1 := ⟨_, rfl⟩
            refine lv_iinc (v := x_6) (lv' := [(3, .int x_6), (2, .int r_gr), (0, .ref h), (1, .int y)]) hx hb dX3_hold_69 hl (k := 0) rfl (by rw [ex_6]; rfl) (by decide) rfl (fun ls hl => ?_)
            first | have tx_6 := t_add ex_6 (by omega) (by omega) | skip
            refine lv_goto (tgt := 28) hx hb dX3_hold_72 (by decide) ?_
            exact ih28 x_6 fs fg (by omega) (by omega) (by omega) (by first | exact hhl.move (by omega) (by omega) (by omega) ⟨by rw [nI_ix (i := j) (by omega)]; exact cg, by rw [← hhl.2.1 j.toNatClampNeg (by have := t_cl (x := j) (by omega); omega), ← eys]; omega, by rw [← eyr]; omega⟩ (by omega) (by omega) hw_sd.1 hw_sd.2 | exact hhl.stay (by omega) (by omega) (fun m => by have m1 := m.1; rw [nI_ix (i := j) (by omega)] at m1; exact m1 cg) | exact hhl.stay (by omega) (by omega) (fun m => by have m1 := m.2.1; rw [← hhl.2.1 j.toNatClampNeg (by have := t_cl (x := j) (by omega); omega), ← eys] at m1; omega) | exact hhl.stay (by omega) (by omega) (fun m => by have m1 := m.2.2; rw [← eyr] at m1; omega)) _ _ hP hD hS ls (lv_sub hl [0, 1, 2, 3] rfl)
          · have tcg := t_neq cg
            refine lv_aload_n hx hb dX3_hold_41 rfl (lv_at hl 2 rfl) ?_
            refine va_get (D := D) (ci := 3) (v := .ref a_standsOn) (C := RX3) (T := TX3) (N := 7) hx hb hts in_h_hold_X3 hown hK.1 hP 0 rfl rfl 2 (by decide) lk3 (fun _ h9 => h9) rfl dX3_hold_42 ?_
            refine lv_iload_n hx hb dX3_hold_45 rfl (lv_at hl 0 rfl) ?_
            refine va_iald hx hb hK.1 hP 3 0 rfl rfl (t_in (by omega) (by omega)) dX3_hold_46 ?_
            refine lv_topi (fun ys eys => ?_)
            refine lv_iload_n hx hb dX3_hold_47 rfl (lv_at hl 3 rfl) ?_
            refine lv_icmp_ne (tgt := 69) hx hb dX3_hold_48 (by decide) (fun c_8 => ?_) (fun c_8 => ?_)
            · have tc_8 := t_neq c_8
              obtain ⟨x_9, ex_9⟩ : ∃ y : Int32, y = j + 1 := ⟨_, rfl⟩
              refine lv_iinc (v := x_9) (lv' := [(3, .int x_9), (2, .int r_gr), (0, .ref h), (1, .int y)]) hx hb dX3_hold_69 hl (k := 0) rfl (by rw [ex_9]; rfl) (by decide) rfl (fun ls hl => ?_)
              first | have tx_9 := t_add ex_9 (by omega) (by omega) | skip
              refine lv_goto (tgt := 28) hx hb dX3_hold_72 (by decide) ?_
              exact ih28 x_9 fs fg (by omega) (by omega) (by omega) (by first | exact hhl.move (by omega) (by omega) (by omega) ⟨by rw [nI_ix (i := j) (by omega)]; exact cg, by rw [← hhl.2.1 j.toNatClampNeg (by have := t_cl (x := j) (by omega); omega), ← eys]; omega, by rw [← eyr]; omega⟩ (by omega) (by omega) hw_sd.1 hw_sd.2 | exact hhl.stay (by omega) (by omega) (fun m => by have m1 := m.1; rw [nI_ix (i := j) (by omega)] at m1; exact m1 cg) | exact hhl.stay (by omega) (by omega) (fun m => by have m1 := m.2.1; rw [← hhl.2.1 j.toNatClampNeg (by have := t_cl (x := j) (by omega); omega), ← eys] at m1; omega) | exact hhl.stay (by omega) (by omega) (fun m => by have m1 := m.2.2; rw [← eyr] at m1; omega)) _ _ hP hD hS ls (lv_sub hl [0, 1, 2, 3] rfl)
            · have tc_8 := t_eq c_8
              refine lv_aload_n hx hb dX3_hold_51 rfl (lv_at hl 2 rfl) ?_
              refine va_get (D := D) (ci := 3) (v := .ref a_ranks) (C := RX3) (T := TX3) (N := 7) hx hb hts in_h_hold_X3 hown hK.1 hP 0 rfl rfl 1 (by decide) lk4 (fun _ h9 => h9) rfl dX3_hold_52 ?_
              refine lv_iload_n hx hb dX3_hold_55 rfl (lv_at hl 0 rfl) ?_
              refine va_iald hx hb hK.1 hP 2 0 rfl rfl (t_in (by omega) (by omega)) dX3_hold_56 ?_
              refine lv_topi (fun yr eyr => ?_)
              refine lv_iconst (v := 2) hx hb dX3_hold_57 (by decide) ?_
              refine lv_icmp_lt (tgt := 69) hx hb dX3_hold_58 (by decide) (fun c_11 => ?_) (fun c_11 => ?_)
              · have tc_11 := t_lt c_11
                obtain ⟨x_12, ex_12⟩ : ∃ y : Int32, y = j + 1 := ⟨_, rfl⟩
                refine lv_iinc (v := x_12) (lv' := [(3, .int x_12), (2, .int r_gr), (0, .ref h), (1, .int y)]) hx hb dX3_hold_69 hl (k := 0) rfl (by rw [ex_12]; rfl) (by decide) rfl (fun ls hl => ?_)
                first | have tx_12 := t_add ex_12 (by omega) (by omega) | skip
                refine lv_goto (tgt := 28) hx hb dX3_hold_72 (by decide) ?_
                exact ih28 x_12 fs fg (by omega) (by omega) (by omega) (by first | exact hhl.move (by omega) (by omega) (by omega) ⟨by rw [nI_ix (i := j) (by omega)]; exact cg, by rw [← hhl.2.1 j.toNatClampNeg (by have := t_cl (x := j) (by omega); omega), ← eys]; omega, by rw [← eyr]; omega⟩ (by omega) (by omega) hw_sd.1 hw_sd.2 | exact hhl.stay (by omega) (by omega) (fun m => by have m1 := m.1; rw [nI_ix (i := j) (by omega)] at m1; exact m1 cg) | exact hhl.stay (by omega) (by omega) (fun m => by have m1 := m.2.1; rw [← hhl.2.1 j.toNatClampNeg (by have := t_cl (x := j) (by omega); omega), ← eys] at m1; omega) | exact hhl.stay (by omega) (by omega) (fun m => by have m1 := m.2.2; rw [← eyr] at m1; omega)) _ _ hP hD hS ls (lv_sub hl [0, 1, 2, 3] rfl)
              · have tc_11 := t_nlt c_11
                refine lv_aload_n hx hb dX3_hold_61 rfl (lv_at hl 2 rfl) ?_
                refine lv_iload_n hx hb dX3_hold_62 rfl (lv_at hl 0 rfl) ?_
                refine lv_iload_n hx hb dX3_hold_63 rfl (lv_at hl 3 rfl) ?_
                refine lv_iconst (v := 1) hx hb dX3_hold_64 (by decide) ?_
                refine lv_iadd hx hb dX3_hold_65 ?_
                refine lv_topi (fun y2 ey2 => ?_)
                first | have ty2 := t_add ey2 (by omega) (by omega) | skip
                have hPc := hP.sub (ws' := [(h, .inr (3, [.ref a_falls, .ref a_ranks, .ref a_standsOn, .ref a_heldOn, .ref a_holder, .ref a_standing, .int v_size])), (a_standsOn, .inl (cI, 40, .inl fs)), (a_standing, .inl (cI, 365, .inl fg))]) [0, 3, 6] rfl
                refine rwVv (As := [.int j, .int y2]) (rest := []) (wc := [(h, .inr (3, [.ref a_falls, .ref a_ranks, .ref a_standsOn, .ref a_heldOn, .ref a_holder, .ref a_standing, .int v_size])), (a_standsOn, .inl (cI, 40, .inl fs)), (a_standing, .inl (cI, 365, .inl fg))]) (wr := [(a_falls, .inl (cI, 40, .inl f_falls)), (a_ranks, .inl (cI, 40, .inl f_ranks)), (a_heldOn, .inl (cI, 40, .inl go)), (a_holder, .inl (cI, 365, .inl gh))]) S (h_stand  (by omega) (by omega) (by omega)) (cwV 2 hts gX3_hold_X3_stand rfl rfl rfl ⟨rfl, hd_X3_stand⟩ ⟨Nat.le_of_ble_eq_true rfl, Nat.le_of_ble_eq_true rfl⟩) hK hP hD hS hA [0, 3, 6] [1, 2, 4, 5] rfl rfl (by decide +kernel) (by decide +kernel) (by decide +kernel) (va_recv hK.1 hPc (ci := 3) (q0 := 0) rfl rfl) rfl hl.1 rfl (Nat.le_of_ble_eq_true rfl) dX3_hold_66 ⟨Nat.le_of_ble_eq_true rfl, Nat.le_of_ble_eq_true rfl⟩ (fun u_sd H locs hw_sd hP hD hS => ?_)
                obtain ⟨f1_sd, f2_sd⟩ := u_sd
                have hw_sd : f1_sd = upd fs j.toNatClampNeg y2 ∧ ((y2.toInt < 365 ∧ f2_sd = upd fg y2.toNatClampNeg (fg y2.toNatClampNeg + 1)) ∨ (365 ≤ y2.toInt ∧ f2_sd = fg)) := hw_sd
                have hP : va_P D vwCl [(a_falls, .inl (cI, 40, .inl f_falls)), (a_ranks, .inl (cI, 40, .inl f_ranks)), (a_heldOn, .inl (cI, 40, .inl go)), (a_holder, .inl (cI, 365, .inl gh)), (h, .inr (3, [.ref a_falls, .ref a_ranks, .ref a_standsOn, .ref a_heldOn, .ref a_holder, .ref a_standing, .int v_size])), (a_standsOn, .inl (cI, 40, .inl f1_sd)), (a_standing, .inl (cI, 365, .inl f2_sd))] H := hP
                have hD := asD hP hD
                obtain ⟨x_14, ex_14⟩ : ∃ y : Int32, y = j + 1 := ⟨_, rfl⟩
                refine lv_iinc (v := x_14) (lv' := [(3, .int x_14), (2, .int r_gr), (0, .ref h), (1, .int y)]) hx hb dX3_hold_69 hl (k := 0) rfl (by rw [ex_14]; rfl) (by decide) rfl (fun ls hl => ?_)
                first | have tx_14 := t_add ex_14 (by omega) (by omega) | skip
                refine lv_goto (tgt := 28) hx hb dX3_hold_72 (by decide) ?_
                exact ih28 x_14 f1_sd f2_sd (by omega) (by omega) (by omega) (by first | exact hhl.move (by omega) (by omega) (by omega) ⟨by rw [nI_ix (i := j) (by omega)]; exact cg, by rw [← hhl.2.1 j.toNatClampNeg (by have := t_cl (x := j) (by omega); omega), ← eys]; omega, by rw [← eyr]; omega⟩ (by omega) (by omega) hw_sd.1 hw_sd.2 | exact hhl.stay (by omega) (by omega) (fun m => by have m1 := m.1; rw [nI_ix (i := j) (by omega)] at m1; exact m1 cg) | exact hhl.stay (by omega) (by omega) (fun m => by have m1 := m.2.1; rw [← hhl.2.1 j.toNatClampNeg (by have := t_cl (x := j) (by omega); omega), ← eys] at m1; omega) | exact hhl.stay (by omega) (by omega) (fun m => by have m1 := m.2.2; rw [← eyr] at m1; omega)) _ _ (hP.sub [4, 0, 1, 5, 2, 3, 6] rfl) (hD.sub [4, 0, 1, 5, 2, 3, 6] (by decide +kernel) rfl) hS ls (lv_sub hl [0, 1, 2, 3] rfl)
    exact loop28 ((v_size.toInt - (0 : Int32).toInt).toNat + 1) 0 f_standsOn f_standing (by omega) (by omega) (by omega) (HoldL.zero hfe.2.2.2.2.1 (by omega)) _ _ hP hD hS ls (lv_sub hl [0, 1, 2, 3] rfl)
  · have tc_1 := t_eq c_1
    exact hret (f_standsOn, f_heldOn, f_holder, f_standing) _ _ _ _ (show FeP f_falls f_ranks f_standsOn f_heldOn f_holder f_standing v_size.toInt (y.toNatClampNeg + 1) from hfe.none (by omega) (by omega) (hw_gr.nil (by omega))) (hP.sub [0, 1, 2, 3, 4, 5, 6] rfl) (hD.sub [0, 1, 2, 3, 4, 5, 6] (by decide +kernel) rfl) hS dX3_hold_11

theorem in_h_settle_X3 : ∀ w ∈ wsX30, w ∈ wsX3_settle := tl_X3_settle_X3
set_option maxHeartbeats 8000000 in
set_option maxRecDepth 100000 in
theorem h_settle {l : Launch} {D : va_G} {cI cZ cB : ClassId} {sz : Nat} {h a_falls a_ranks a_standsOn a_heldOn a_holder a_standing : Nat} {v_size : Int32} {f_falls f_ranks f_standsOn f_heldOn f_holder f_standing : Nat → Int32}  (hv_size0 : 0 ≤ v_size.toInt) (hv_size1 : v_size.toInt ≤ 40) (hf : InR f_falls v_size.toInt 0 365) : Met l yX3_settle wsX3_settle ({ frames := 3, cells := 0, slots := 0, locals := 69 }) (RW D cI cZ cB [.ref h] sz [(h, .inr (3, [.ref a_falls, .ref a_ranks, .ref a_standsOn, .ref a_heldOn, .ref a_holder, .ref a_standing, .int v_size])), (a_falls, .inl (cI, 40, .inl f_falls)), (a_ranks, .inl (cI, 40, .inl f_ranks)), (a_standsOn, .inl (cI, 40, .inl f_standsOn)), (a_heldOn, .inl (cI, 40, .inl f_heldOn)), (a_holder, .inl (cI, 365, .inl f_holder)), (a_standing, .inl (cI, 365, .inl f_standing))]) (va_Qv (fun u : (Nat → Int32) × (Nat → Int32) × (Nat → Int32) × (Nat → Int32) => (HeldR f_falls f_ranks v_size.toInt u.2.2.1 365 ∧ HoP u.2.1 u.2.2.1 v_size.toInt 365)) (BW D [(h, .inr (3, [.ref a_falls, .ref a_ranks, .ref a_standsOn, .ref a_heldOn, .ref a_holder, .ref a_standing, .int v_size])), (a_falls, .inl (cI, 40, .inl f_falls)), (a_ranks, .inl (cI, 40, .inl f_ranks)), (a_standsOn, .inl (cI, 40, .inl f_standsOn)), (a_heldOn, .inl (cI, 40, .inl f_heldOn)), (a_holder, .inl (cI, 365, .inl f_holder)), (a_standing, .inl (cI, 365, .inl f_standing))] sz (fun u : (Nat → Int32) × (Nat → Int32) × (Nat → Int32) × (Nat → Int32) => [(h, .inr (3, [.ref a_falls, .ref a_ranks, .ref a_standsOn, .ref a_heldOn, .ref a_holder, .ref a_standing, .int v_size])), (a_falls, .inl (cI, 40, .inl f_falls)), (a_ranks, .inl (cI, 40, .inl f_ranks)), (a_standsOn, .inl (cI, 40, .inl u.1)), (a_heldOn, .inl (cI, 40, .inl u.2.1)), (a_holder, .inl (cI, 365, .inl u.2.2.1)), (a_standing, .inl (cI, 365, .inl u.2.2.2))])) (va_A [(h, .inr (3, [.ref a_falls, .ref a_ranks, .ref a_standsOn, .ref a_heldOn, .ref a_holder, .ref a_standing, .int v_size])), (a_falls, .inl (cI, 40, .inl f_falls)), (a_ranks, .inl (cI, 40, .inl f_ranks)), (a_standsOn, .inl (cI, 40, .inl f_standsOn)), (a_heldOn, .inl (cI, 40, .inl f_heldOn)), (a_holder, .inl (cI, 365, .inl f_holder)), (a_standing, .inl (cI, 365, .inl f_standing))] sz)) 0 (0) (va_A [(h, .inr (3, [.ref a_falls, .ref a_ranks, .ref a_standsOn, .ref a_heldOn, .ref a_holder, .ref a_standing, .int v_size])), (a_falls, .inl (cI, 40, .inl f_falls)), (a_ranks, .inl (cI, 40, .inl f_ranks)), (a_standsOn, .inl (cI, 40, .inl f_standsOn)), (a_heldOn, .inl (cI, 40, .inl f_heldOn)), (a_holder, .inl (cI, 365, .inl f_holder)), (a_standing, .inl (cI, 365, .inl f_standing))] sz) := by
  refine rw_retv (cc := cX3_settle) (maxL := 2) (own := RX3) (by decide) rfl rfl (Nat.le_of_ble_eq_true rfl) ?_
  intro p e s m args below meth c Q A S hin hret hP hK hD hA hS ls hl
  obtain ⟨hx, hb, hml, hown, hts⟩ := id S
  have hl : lv_has ls 2 [(0, .ref h)] := hl
  have kkm1 : (-1 : Int32).toInt = -1 := by decide
  have kk0 : (0 : Int32).toInt = 0 := by decide
  have kk1 : (1 : Int32).toInt = 1 := by decide
  have kk365 : (365 : Int32).toInt = 365 := by decide
  have lk0 := hts (.fieldLink RX3 30 "AbbeyHours$Feasts" "size" "I") (List.mem_cons_of_mem _ (List.mem_append_left _ (List.mem_of_getElem? (i := 2) rfl)))
  have lk1 := hts (.fieldLink RX3 27 "AbbeyHours$Feasts" "standing" "[I") (List.mem_cons_of_mem _ (List.mem_append_left _ (List.mem_of_getElem? (i := 1) rfl)))
  have lk2 := hts (.fieldLink RX3 21 "AbbeyHours$Feasts" "heldOn" "[I") (List.mem_cons_of_mem _ (List.mem_append_left _ (List.mem_of_getElem? (i := 3) rfl)))
  have lk3 := hts (.fieldLink RX3 11 "AbbeyHours$Feasts" "falls" "[I") (List.mem_cons_of_mem _ (List.mem_append_left _ (List.mem_of_getElem? (i := 4) rfl)))
  have lk4 := hts (.fieldLink RX3 24 "AbbeyHours$Feasts" "holder" "[I") (List.mem_cons_of_mem _ (List.mem_append_left _ (List.mem_of_getElem? (i := 0) rfl)))
  refine lv_iconst (v := 0) hx hb dX3_settle_0 (by decide) ?_
  refine lv_istore_n (lv' := [(1, .int 0), (0, .ref h)]) hx hb dX3_settle_1 rfl hl (by decide) rfl (fun ls hl => ?_)
  have loop2 : ∀ (fuel : Nat) (j : Int32) (fr : Nat → Int32) (fg : Nat → Int32), 365 - j.toInt < (fuel : Int) → (0 ≤ j.toInt) → (j.toInt ≤ 365) → (Al (fun q => fr q = -1) j.toInt) → (InR fg j.toInt 0 1) → ∀ (H : Heap) (locs : List Loc), va_P D vwCl [(h, .inr (3, [.ref a_falls, .ref a_ranks, .ref a_standsOn, .ref a_heldOn, .ref a_holder, .ref a_standing, .int v_size])), (a_falls, .inl (cI, 40, .inl f_falls)), (a_ranks, .inl (cI, 40, .inl f_ranks)), (a_standsOn, .inl (cI, 40, .inl f_standsOn)), (a_heldOn, .inl (cI, 40, .inl f_heldOn)), (a_holder, .inl (cI, 365, .inl fr)), (a_standing, .inl (cI, 365, .inl fg))] H → va_D A [(h, .inr (3, [.ref a_falls, .ref a_ranks, .ref a_standsOn, .ref a_heldOn, .ref a_holder, .ref a_standing, .int v_size])), (a_falls, .inl (cI, 40, .inl f_falls)), (a_ranks, .inl (cI, 40, .inl f_ranks)), (a_standsOn, .inl (cI, 40, .inl f_standsOn)), (a_heldOn, .inl (cI, 40, .inl f_heldOn)), (a_holder, .inl (cI, 365, .inl fr)), (a_standing, .inl (cI, 365, .inl fg))] → va_S A s.heap H locs → ∀ ls : Array Slot, lv_has ls 2 [(1, .int j), (0, .ref h)] → W p l e ({ frames := 3, cells := 0, slots := 0, locals := 69 } : Room) s m args below meth c H locs 0 (0) Q (F0 m 2 ls []) := by
    intro fuel
    induction fuel with
    | zero =>
      intro j fr fg hmu hj0 hj1 hr hg H locs hP hD hS ls hl
      exfalso; omega
    | succ fuel ih2 =>
      intro j fr fg hmu hj0 hj1 hr hg H locs hP hD hS ls hl
      refine lv_iload_n hx hb dX3_settle_2 rfl (lv_at hl 0 rfl) ?_
      refine lv_sipush (v := 365) hx hb dX3_settle_3 (by decide) ?_
      refine lv_icmp_ge (tgt := 29) hx hb dX3_settle_6 (by decide) (fun c_1 => ?_) (fun c_1 => ?_)
      · have tc_1 := t_le c_1
        refine lv_iconst (v := 0) hx hb dX3_settle_29 (by decide) ?_
        refine lv_istore_n (lv' := [(1, .int 0), (0, .ref h)]) hx hb dX3_settle_30 rfl hl (by decide) rfl (fun ls hl => ?_)
        have loop31 : ∀ (fuel : Nat) (j : Int32) (fs : Nat → Int32) (fg2 : Nat → Int32) (fo : Nat → Int32), v_size.toInt - j.toInt < (fuel : Int) → (0 ≤ j.toInt) → (j.toInt ≤ v_size.toInt) → (SetL f_falls fs fo fg2 j.toInt) → ∀ (H : Heap) (locs : List Loc), va_P D vwCl [(h, .inr (3, [.ref a_falls, .ref a_ranks, .ref a_standsOn, .ref a_heldOn, .ref a_holder, .ref a_standing, .int v_size])), (a_falls, .inl (cI, 40, .inl f_falls)), (a_ranks, .inl (cI, 40, .inl f_ranks)), (a_standsOn, .inl (cI, 40, .inl fs)), (a_heldOn, .inl (cI, 40, .inl fo)), (a_holder, .inl (cI, 365, .inl fr)), (a_standing, .inl (cI, 365, .inl fg2))] H → va_D A [(h, .inr (3, [.ref a_falls, .ref a_ranks, .ref a_standsOn, .ref a_heldOn, .ref a_holder, .ref a_standing, .int v_size])), (a_falls, .inl (cI, 40, .inl f_falls)), (a_ranks, .inl (cI, 40, .inl f_ranks)), (a_standsOn, .inl (cI, 40, .inl fs)), (a_heldOn, .inl (cI, 40, .inl fo)), (a_holder, .inl (cI, 365, .inl fr)), (a_standing, .inl (cI, 365, .inl fg2))] → va_S A s.heap H locs → ∀ ls : Array Slot, lv_has ls 2 [(1, .int j), (0, .ref h)] → W p l e ({ frames := 3, cells := 0, slots := 0, locals := 69 } : Room) s m args below meth c H locs 0 (0) Q (F0 m 31 ls []) := by
          intro fuel
          induction fuel with
          | zero =>
            intro j fs fg2 fo hmu hj0 hj1 hsl H locs hP hD hS ls hl
            exfalso; omega
          | succ fuel ih31 =>
            intro j fs fg2 fo hmu hj0 hj1 hsl H locs hP hD hS ls hl
            refine lv_iload_n hx hb dX3_settle_31 rfl (lv_at hl 0 rfl) ?_
            refine lv_aload_n hx hb dX3_settle_32 rfl (lv_at hl 1 rfl) ?_
            refine va_get (D := D) (ci := 3) (v := .int v_size) (C := RX3) (T := TX3) (N := 7) hx hb hts in_h_settle_X3 hown hK.1 hP 0 rfl rfl 6 (by decide) lk0 (fun _ h9 => h9) rfl dX3_settle_33 ?_
            refine lv_icmp_ge (tgt := 63) hx hb dX3_settle_36 (by decide) (fun c_2 => ?_) (fun c_2 => ?_)
            · have tc_2 := t_le c_2
              refine lv_iconst (v := 0) hx hb dX3_settle_63 (by decide) ?_
              refine lv_istore_n (lv' := [(1, .int 0), (0, .ref h)]) hx hb dX3_settle_64 rfl hl (by decide) rfl (fun ls hl => ?_)
              have loop65 : ∀ (fuel : Nat) (j : Int32) (fs : Nat → Int32) (fg3 : Nat → Int32) (fo : Nat → Int32) (fr3 : Nat → Int32), 365 - j.toInt < (fuel : Int) → (0 ≤ j.toInt) → (j.toInt ≤ 365) → (FeP f_falls f_ranks fs fo fr3 fg3 v_size.toInt j.toNatClampNeg) → ∀ (H : Heap) (locs : List Loc), va_P D vwCl [(h, .inr (3, [.ref a_falls, .ref a_ranks, .ref a_standsOn, .ref a_heldOn, .ref a_holder, .ref a_standing, .int v_size])), (a_falls, .inl (cI, 40, .inl f_falls)), (a_ranks, .inl (cI, 40, .inl f_ranks)), (a_standsOn, .inl (cI, 40, .inl fs)), (a_heldOn, .inl (cI, 40, .inl fo)), (a_holder, .inl (cI, 365, .inl fr3)), (a_standing, .inl (cI, 365, .inl fg3))] H → va_D A [(h, .inr (3, [.ref a_falls, .ref a_ranks, .ref a_standsOn, .ref a_heldOn, .ref a_holder, .ref a_standing, .int v_size])), (a_falls, .inl (cI, 40, .inl f_falls)), (a_ranks, .inl (cI, 40, .inl f_ranks)), (a_standsOn, .inl (cI, 40, .inl fs)), (a_heldOn, .inl (cI, 40, .inl fo)), (a_holder, .inl (cI, 365, .inl fr3)), (a_standing, .inl (cI, 365, .inl fg3))] → va_S A s.heap H locs → ∀ ls : Array Slot, lv_has ls 2 [(1, .int j), (0, .ref h)] → W p l e ({ frames := 3, cells := 0, slots := 0, locals := 69 } : Room) s m args below meth c H locs 0 (0) Q (F0 m 65 ls []) := by
                intro fuel
                induction fuel with
                | zero =>
                  intro j fs fg3 fo fr3 hmu hj0 hj1 hfe H locs hP hD hS ls hl
                  exfalso; omega
                | succ fuel ih65 =>
                  intro j fs fg3 fo fr3 hmu hj0 hj1 hfe H locs hP hD hS ls hl
                  refine lv_iload_n hx hb dX3_settle_65 rfl (lv_at hl 0 rfl) ?_
                  refine lv_sipush (v := 365) hx hb dX3_settle_66 (by decide) ?_
                  refine lv_icmp_ge (tgt := 92) hx hb dX3_settle_69 (by decide) (fun c_3 => ?_) (fun c_3 => ?_)
                  · have tc_3 := t_le c_3
                    exact hret (fs, fo, fr3, fg3) _ _ _ _ (show (HeldR f_falls f_ranks v_size.toInt fr3 365 ∧ HoP fo fr3 v_size.toInt 365) from by have e : j.toNatClampNeg = 365 := by { have := t_cl (x := j) (by omega); omega }; rw [e] at hfe; exact ⟨hfe.1, hfe.2.2.2.1⟩) (hP.sub [0, 1, 2, 3, 4, 5, 6] rfl) (hD.sub [0, 1, 2, 3, 4, 5, 6] (by decide +kernel) rfl) hS dX3_settle_92
                  · have tc_3 := t_nle c_3
                    refine lv_aload_n hx hb dX3_settle_72 rfl (lv_at hl 1 rfl) ?_
                    refine va_get (D := D) (ci := 3) (v := .ref a_standing) (C := RX3) (T := TX3) (N := 7) hx hb hts in_h_settle_X3 hown hK.1 hP 0 rfl rfl 5 (by decide) lk1 (fun _ h9 => h9) rfl dX3_settle_73 ?_
                    refine lv_iload_n hx hb dX3_settle_76 rfl (lv_at hl 0 rfl) ?_
                    refine va_iald hx hb hK.1 hP 6 0 rfl rfl (t_in (by omega) (by omega)) dX3_settle_77 ?_
                    refine lv_topi (fun ys eys => ?_)
                    refine lv_if_le (tgt := 86) hx hb dX3_settle_78 (by decide) (fun c_5 => ?_) (fun c_5 => ?_)
                    · have tc_5 := t_le c_5
                      obtain ⟨x_6, ex_6⟩ : ∃ y : Int32, y = j + 1 := ⟨_, rfl⟩
                      refine lv_iinc (v := x_6) (lv' := [(1, .int x_6), (0, .ref h)]) hx hb dX3_settle_86 hl (k := 0) rfl (by rw [ex_6]; rfl) (by decide) rfl (fun ls hl => ?_)
                      first | have tx_6 := t_add ex_6 (by omega) (by omega) | skip
                      refine lv_goto (tgt := 65) hx hb dX3_settle_89 (by decide) ?_
                      exact ih65 x_6 fs fg3 fo fr3 (by omega) (by omega) (by omega) (by rw [ix1 (x := x_6) (i := j) (by omega) (by omega)]; first | exact hw_ho | exact hfe.none (by omega) (by have := t_cl (x := j) (by omega); omega) (fun i hi m => by have hcj := t_cl (x := j) (by omega); have m : (fs i).toInt = (j.toNatClampNeg : Int) := m; have z := hfe.2.2.1 i hi (by omega) (by omega); rw [show fs i = j from i32_ext (by omega), ← eys] at z; omega)) _ _ hP hD hS ls (lv_sub hl [0, 1] rfl)
                    · have tc_5 := t_nle c_5
                      refine lv_aload_n hx hb dX3_settle_81 rfl (lv_at hl 1 rfl) ?_
                      refine lv_iload_n hx hb dX3_settle_82 rfl (lv_at hl 0 rfl) ?_
                      have hPc := hP.sub (ws' := [(h, .inr (3, [.ref a_falls, .ref a_ranks, .ref a_standsOn, .ref a_heldOn, .ref a_holder, .ref a_standing, .int v_size])), (a_falls, .inl (cI, 40, .inl f_falls)), (a_ranks, .inl (cI, 40, .inl f_ranks)), (a_standsOn, .inl (cI, 40, .inl fs)), (a_heldOn, .inl (cI, 40, .inl fo)), (a_holder, .inl (cI, 365, .inl fr3)), (a_standing, .inl (cI, 365, .inl fg3))]) [0, 1, 2, 3, 4, 5, 6] rfl
                      refine rwVv (As := [.int j]) (rest := []) (wc := [(h, .inr (3, [.ref a_falls, .ref a_ranks, .ref a_standsOn, .ref a_heldOn, .ref a_holder, .ref a_standing, .int v_size])), (a_falls, .inl (cI, 40, .inl f_falls)), (a_ranks, .inl (cI, 40, .inl f_ranks)), (a_standsOn, .inl (cI, 40, .inl fs)), (a_heldOn, .inl (cI, 40, .inl fo)), (a_holder, .inl (cI, 365, .inl fr3)), (a_standing, .inl (cI, 365, .inl fg3))]) (wr := []) S (h_hold  (by omega) (by omega) (by omega) (by omega) (hfe)) (cwV 1 hts gX3_settle_X3_hold rfl rfl rfl ⟨rfl, hd_X3_hold⟩ ⟨Nat.le_of_ble_eq_true rfl, Nat.le_of_ble_eq_true rfl⟩) hK hP hD hS hA [0, 1, 2, 3, 4, 5, 6] [] rfl rfl (by decide +kernel) (by decide +kernel) (by decide +kernel) (va_recv hK.1 hPc (ci := 3) (q0 := 0) rfl rfl) rfl hl.1 rfl (Nat.le_of_ble_eq_true rfl) dX3_settle_83 ⟨Nat.le_of_ble_eq_true rfl, Nat.le_of_ble_eq_true rfl⟩ (fun u_ho H locs hw_ho hP hD hS => ?_)
                      obtain ⟨f1_ho, f2_ho, f3_ho, f4_ho⟩ := u_ho
                      have hw_ho : FeP f_falls f_ranks f1_ho f2_ho f3_ho f4_ho v_size.toInt (j.toNatClampNeg + 1) := hw_ho
                      have hP : va_P D vwCl [(h, .inr (3, [.ref a_falls, .ref a_ranks, .ref a_standsOn, .ref a_heldOn, .ref a_holder, .ref a_standing, .int v_size])), (a_falls, .inl (cI, 40, .inl f_falls)), (a_ranks, .inl (cI, 40, .inl f_ranks)), (a_standsOn, .inl (cI, 40, .inl f1_ho)), (a_heldOn, .inl (cI, 40, .inl f2_ho)), (a_holder, .inl (cI, 365, .inl f3_ho)), (a_standing, .inl (cI, 365, .inl f4_ho))] H := hP
                      have hD := asD hP hD
                      obtain ⟨x_7, ex_7⟩ : ∃ y : Int32, y = j + 1 := ⟨_, rfl⟩
                      refine lv_iinc (v := x_7) (lv' := [(1, .int x_7), (0, .ref h)]) hx hb dX3_settle_86 hl (k := 0) rfl (by rw [ex_7]; rfl) (by decide) rfl (fun ls hl => ?_)
                      first | have tx_7 := t_add ex_7 (by omega) (by omega) | skip
                      refine lv_goto (tgt := 65) hx hb dX3_settle_89 (by decide) ?_
                      exact ih65 x_7 f1_ho f4_ho f2_ho f3_ho (by omega) (by omega) (by omega) (by rw [ix1 (x := x_7) (i := j) (by omega) (by omega)]; first | exact hw_ho | exact hfe.none (by omega) (by have := t_cl (x := j) (by omega); omega) (fun i hi m => by have hcj := t_cl (x := j) (by omega); have m : (fs i).toInt = (j.toNatClampNeg : Int) := m; have z := hfe.2.2.1 i hi (by omega) (by omega); rw [show fs i = j from i32_ext (by omega), ← eys] at z; omega)) _ _ hP hD hS ls (lv_sub hl [0, 1] rfl)
              exact loop65 ((365 - (0 : Int32).toInt).toNat + 1) 0 fs fg2 fo fr (by omega) (by omega) (by omega) (by rw [ix0]; exact FeP.zero (by rw [show v_size.toInt = j.toInt by omega]; exact hsl) (by omega) (hr.to (by omega)) hf) _ _ hP hD hS ls (lv_sub hl [0, 1] rfl)
            · have tc_2 := t_nle c_2
              refine lv_aload_n hx hb dX3_settle_39 rfl (lv_at hl 1 rfl) ?_
              refine va_get (D := D) (ci := 3) (v := .ref a_heldOn) (C := RX3) (T := TX3) (N := 7) hx hb hts in_h_settle_X3 hown hK.1 hP 0 rfl rfl 3 (by decide) lk2 (fun _ h9 => h9) rfl dX3_settle_40 ?_
              refine lv_iload_n hx hb dX3_settle_43 rfl (lv_at hl 0 rfl) ?_
              refine lv_iconst (v := (-1)) hx hb dX3_settle_44 (by decide) ?_
              refine va_iast hx hb hK.1 hP hD hS 4 0 rfl rfl (t_in (by omega) (by omega)) dX3_settle_45 (fun H locs hP hD hS => ?_)
              obtain ⟨go, ego⟩ : ∃ z : Nat → Int32, z = upd fo ((j : Int32).toNatClampNeg) (-1) := ⟨_, rfl⟩
              rw [← ego] at hP hD
              have hP : va_P D vwCl [(h, .inr (3, [.ref a_falls, .ref a_ranks, .ref a_standsOn, .ref a_heldOn, .ref a_holder, .ref a_standing, .int v_size])), (a_falls, .inl (cI, 40, .inl f_falls)), (a_ranks, .inl (cI, 40, .inl f_ranks)), (a_standsOn, .inl (cI, 40, .inl fs)), (a_heldOn, .inl (cI, 40, .inl go)), (a_holder, .inl (cI, 365, .inl fr)), (a_standing, .inl (cI, 365, .inl fg2))] H := hP
              have hD := asD hP hD
              refine lv_aload_n hx hb dX3_settle_46 rfl (lv_at hl 1 rfl) ?_
              refine lv_iload_n hx hb dX3_settle_47 rfl (lv_at hl 0 rfl) ?_
              refine lv_aload_n hx hb dX3_settle_48 rfl (lv_at hl 1 rfl) ?_
              refine va_get (D := D) (ci := 3) (v := .ref a_falls) (C := RX3) (T := TX3) (N := 7) hx hb hts in_h_settle_X3 hown hK.1 hP 0 rfl rfl 0 (by decide) lk3 (fun _ h9 => h9) rfl dX3_settle_49 ?_
              refine lv_iload_n hx hb dX3_settle_52 rfl (lv_at hl 0 rfl) ?_
              refine va_iald hx hb hK.1 hP 1 0 rfl rfl (t_in (by omega) (by omega)) dX3_settle_53 ?_
              refine lv_topi (fun yv eyv => ?_)
              have hq := hf.get (i := j) (by omega) (by omega)
              rw [← eyv] at hq
              have hPc := hP.sub (ws' := [(h, .inr (3, [.ref a_falls, .ref a_ranks, .ref a_standsOn, .ref a_heldOn, .ref a_holder, .ref a_standing, .int v_size])), (a_standsOn, .inl (cI, 40, .inl fs)), (a_standing, .inl (cI, 365, .inl fg2))]) [0, 3, 6] rfl
              refine rwVv (As := [.int j, .int yv]) (rest := []) (wc := [(h, .inr (3, [.ref a_falls, .ref a_ranks, .ref a_standsOn, .ref a_heldOn, .ref a_holder, .ref a_standing, .int v_size])), (a_standsOn, .inl (cI, 40, .inl fs)), (a_standing, .inl (cI, 365, .inl fg2))]) (wr := [(a_falls, .inl (cI, 40, .inl f_falls)), (a_ranks, .inl (cI, 40, .inl f_ranks)), (a_heldOn, .inl (cI, 40, .inl go)), (a_holder, .inl (cI, 365, .inl fr))]) S (h_stand  (by omega) (by omega) (by omega)) (cwV 2 hts gX3_settle_X3_stand rfl rfl rfl ⟨rfl, hd_X3_stand⟩ ⟨Nat.le_of_ble_eq_true rfl, Nat.le_of_ble_eq_true rfl⟩) hK hP hD hS hA [0, 3, 6] [1, 2, 4, 5] rfl rfl (by decide +kernel) (by decide +kernel) (by decide +kernel) (va_recv hK.1 hPc (ci := 3) (q0 := 0) rfl rfl) rfl hl.1 rfl (Nat.le_of_ble_eq_true rfl) dX3_settle_54 ⟨Nat.le_of_ble_eq_true rfl, Nat.le_of_ble_eq_true rfl⟩ (fun u_sd H locs hw_sd hP hD hS => ?_)
              obtain ⟨f1_sd, f2_sd⟩ := u_sd
              have hw_sd : f1_sd = upd fs j.toNatClampNeg yv ∧ ((yv.toInt < 365 ∧ f2_sd = upd fg2 yv.toNatClampNeg (fg2 yv.toNatClampNeg + 1)) ∨ (365 ≤ yv.toInt ∧ f2_sd = fg2)) := hw_sd
              have hP : va_P D vwCl [(a_falls, .inl (cI, 40, .inl f_falls)), (a_ranks, .inl (cI, 40, .inl f_ranks)), (a_heldOn, .inl (cI, 40, .inl go)), (a_holder, .inl (cI, 365, .inl fr)), (h, .inr (3, [.ref a_falls, .ref a_ranks, .ref a_standsOn, .ref a_heldOn, .ref a_holder, .ref a_standing, .int v_size])), (a_standsOn, .inl (cI, 40, .inl f1_sd)), (a_standing, .inl (cI, 365, .inl f2_sd))] H := hP
              have hD := asD hP hD
              obtain ⟨x_10, ex_10⟩ : ∃ y : Int32, y = j + 1 := ⟨_, rfl⟩
              refine lv_iinc (v := x_10) (lv' := [(1, .int x_10), (0, .ref h)]) hx hb dX3_settle_57 hl (k := 0) rfl (by rw [ex_10]; rfl) (by decide) rfl (fun ls hl => ?_)
              first | have tx_10 := t_add ex_10 (by omega) (by omega) | skip
              refine lv_goto (tgt := 31) hx hb dX3_settle_60 (by decide) ?_
              exact ih31 x_10 f1_sd f2_sd go (by omega) (by omega) (by omega) (by rw [hw_sd.1]; exact hsl.up (by omega) (by omega) (by omega) (by omega) eyv (by omega) (by omega) ego hw_sd.2) _ _ (hP.sub [4, 0, 1, 5, 2, 3, 6] rfl) (hD.sub [4, 0, 1, 5, 2, 3, 6] (by decide +kernel) rfl) hS ls (lv_sub hl [0, 1] rfl)
        exact loop31 ((v_size.toInt - (0 : Int32).toInt).toNat + 1) 0 f_standsOn fg f_heldOn (by omega) (by omega) (by omega) (⟨Al.zero (by omega), Al.zero (by omega), hg.mono (by omega) (by omega) (by omega), Al.zero (by omega)⟩) _ _ hP hD hS ls (lv_sub hl [0, 1] rfl)
      · have tc_1 := t_nle c_1
        refine lv_aload_n hx hb dX3_settle_9 rfl (lv_at hl 1 rfl) ?_
        refine va_get (D := D) (ci := 3) (v := .ref a_holder) (C := RX3) (T := TX3) (N := 7) hx hb hts in_h_settle_X3 hown hK.1 hP 0 rfl rfl 4 (by decide) lk4 (fun _ h9 => h9) rfl dX3_settle_10 ?_
        refine lv_iload_n hx hb dX3_settle_13 rfl (lv_at hl 0 rfl) ?_
        refine lv_iconst (v := (-1)) hx hb dX3_settle_14 (by decide) ?_
        refine va_iast hx hb hK.1 hP hD hS 5 0 rfl rfl (t_in (by omega) (by omega)) dX3_settle_15 (fun H locs hP hD hS => ?_)
        obtain ⟨gh, egh⟩ : ∃ z : Nat → Int32, z = upd fr ((j : Int32).toNatClampNeg) (-1) := ⟨_, rfl⟩
        rw [← egh] at hP hD
        have hP : va_P D vwCl [(h, .inr (3, [.ref a_falls, .ref a_ranks, .ref a_standsOn, .ref a_heldOn, .ref a_holder, .ref a_standing, .int v_size])), (a_falls, .inl (cI, 40, .inl f_falls)), (a_ranks, .inl (cI, 40, .inl f_ranks)), (a_standsOn, .inl (cI, 40, .inl f_standsOn)), (a_heldOn, .inl (cI, 40, .inl f_heldOn)), (a_holder, .inl (cI, 365, .inl gh)), (a_standing, .inl (cI, 365, .inl fg))] H := hP
        have hD := asD hP hD
        refine lv_aload_n hx hb dX3_settle_16 rfl (lv_at hl 1 rfl) ?_
        refine va_get (D := D) (ci := 3) (v := .ref a_standing) (C := RX3) (T := TX3) (N := 7) hx hb hts in_h_settle_X3 hown hK.1 hP 0 rfl rfl 5 (by decide) lk1 (fun _ h9 => h9) rfl dX3_settle_17 ?_
        refine lv_iload_n hx hb dX3_settle_20 rfl (lv_at hl 0 rfl) ?_
        refine lv_iconst (v := 0) hx hb dX3_settle_21 (by decide) ?_
        refine va_iast hx hb hK.1 hP hD hS 6 0 rfl rfl (t_in (by omega) (by omega)) dX3_settle_22 (fun H locs hP hD hS => ?_)
        obtain ⟨gz, egz⟩ : ∃ z : Nat → Int32, z = upd fg ((j : Int32).toNatClampNeg) 0 := ⟨_, rfl⟩
        rw [← egz] at hP hD
        have hP : va_P D vwCl [(h, .inr (3, [.ref a_falls, .ref a_ranks, .ref a_standsOn, .ref a_heldOn, .ref a_holder, .ref a_standing, .int v_size])), (a_falls, .inl (cI, 40, .inl f_falls)), (a_ranks, .inl (cI, 40, .inl f_ranks)), (a_standsOn, .inl (cI, 40, .inl f_standsOn)), (a_heldOn, .inl (cI, 40, .inl f_heldOn)), (a_holder, .inl (cI, 365, .inl gh)), (a_standing, .inl (cI, 365, .inl gz))] H := hP
        have hD := asD hP hD
        obtain ⟨x_13, ex_13⟩ : ∃ y : Int32, y = j + 1 := ⟨_, rfl⟩
        refine lv_iinc (v := x_13) (lv' := [(1, .int x_13), (0, .ref h)]) hx hb dX3_settle_23 hl (k := 0) rfl (by rw [ex_13]; rfl) (by decide) rfl (fun ls hl => ?_)
        first | have tx_13 := t_add ex_13 (by omega) (by omega) | skip
        refine lv_goto (tgt := 2) hx hb dX3_settle_26 (by decide) ?_
        exact ih2 x_13 gh gz (by omega) (by omega) (by omega) (by rw [egh]; exact al_put hr (by omega) (by omega)) (by rw [egz]; exact hg.ext (by omega) (by omega) (by omega) (by omega)) _ _ hP hD hS ls (lv_sub hl [0, 1] rfl)
  exact loop2 ((365 - (0 : Int32).toInt).toNat + 1) 0 f_holder f_standing (by omega) (by omega) (by omega) (Al.zero (by omega)) (InR.zero) _ _ hP hD hS ls (lv_sub hl [0, 1] rfl)

theorem in_h_enter_X3 : ∀ w ∈ wsX30, w ∈ wsX3_enter := tl_X3_enter_X3
set_option maxHeartbeats 8000000 in
set_option maxRecDepth 100000 in
theorem h_enter {l : Launch} {D : va_G} {cI cZ cB : ClassId} {sz : Nat} {h a_falls a_ranks a_standsOn a_heldOn a_holder a_standing : Nat} {v_size : Int32} {f_falls f_ranks f_standsOn f_heldOn f_holder f_standing : Nat → Int32} {d k : Int32} (hv_size0 : 0 ≤ v_size.toInt) (hv_size1 : v_size.toInt ≤ 40) (hf : InR f_falls v_size.toInt 0 365) (hd0 : 0 ≤ d.toInt) (hd1 : d.toInt < 365) : Met l yX3_enter wsX3_enter ({ frames := 4, cells := 0, slots := 0, locals := 90 }) (RW D cI cZ cB [.ref h, .int d, .int k] sz [(h, .inr (3, [.ref a_falls, .ref a_ranks, .ref a_standsOn, .ref a_heldOn, .ref a_holder, .ref a_standing, .int v_size])), (a_falls, .inl (cI, 40, .inl f_falls)), (a_ranks, .inl (cI, 40, .inl f_ranks)), (a_standsOn, .inl (cI, 40, .inl f_standsOn)), (a_heldOn, .inl (cI, 40, .inl f_heldOn)), (a_holder, .inl (cI, 365, .inl f_holder)), (a_standing, .inl (cI, 365, .inl f_standing))]) (va_Qi (fun (r : Int32) (u : (Nat → Int32) × (Nat → Int32) × (Nat → Int32) × (Nat → Int32) × Int32 × (Nat → Int32) × (Nat → Int32)) => ((v_size.toInt < 40) ∧ r.toInt = v_size.toInt ∧ u.2.2.2.2.1 = v_size + 1 ∧ u.2.2.2.2.2.1 = upd f_falls v_size.toNatClampNeg d ∧ u.2.2.2.2.2.2 = upd f_ranks v_size.toNatClampNeg k ∧ HeldR u.2.2.2.2.2.1 u.2.2.2.2.2.2 u.2.2.2.2.1.toInt u.2.2.1 365 ∧ HoP u.2.1 u.2.2.1 u.2.2.2.2.1.toInt 365 ∧ InR u.2.2.2.2.2.1 u.2.2.2.2.1.toInt 0 365) ∨ (¬ (v_size.toInt < 40) ∧ r.toInt = -1 ∧ u.2.2.2.2.1 = v_size ∧ u.2.2.2.2.2.1 = f_falls ∧ u.2.2.2.2.2.2 = f_ranks ∧ u.2.2.1 = f_holder ∧ u.2.1 = f_heldOn)) (BW D [(h, .inr (3, [.ref a_falls, .ref a_ranks, .ref a_standsOn, .ref a_heldOn, .ref a_holder, .ref a_standing, .int v_size])), (a_falls, .inl (cI, 40, .inl f_falls)), (a_ranks, .inl (cI, 40, .inl f_ranks)), (a_standsOn, .inl (cI, 40, .inl f_standsOn)), (a_heldOn, .inl (cI, 40, .inl f_heldOn)), (a_holder, .inl (cI, 365, .inl f_holder)), (a_standing, .inl (cI, 365, .inl f_standing))] sz (fun u : (Nat → Int32) × (Nat → Int32) × (Nat → Int32) × (Nat → Int32) × Int32 × (Nat → Int32) × (Nat → Int32) => [(h, .inr (3, [.ref a_falls, .ref a_ranks, .ref a_standsOn, .ref a_heldOn, .ref a_holder, .ref a_standing, .int u.2.2.2.2.1])), (a_falls, .inl (cI, 40, .inl u.2.2.2.2.2.1)), (a_ranks, .inl (cI, 40, .inl u.2.2.2.2.2.2)), (a_standsOn, .inl (cI, 40, .inl u.1)), (a_heldOn, .inl (cI, 40, .inl u.2.1)), (a_holder, .inl (cI, 365, .inl u.2.2.1)), (a_standing, .inl (cI, 365, .inl u.2.2.2.1))])) (va_A [(h, .inr (3, [.ref a_falls, .ref a_ranks, .ref a_standsOn, .ref a_heldOn, .ref a_holder, .ref a_standing, .int v_size])), (a_falls, .inl (cI, 40, .inl f_falls)), (a_ranks, .inl (cI, 40, .inl f_ranks)), (a_standsOn, .inl (cI, 40, .inl f_standsOn)), (a_heldOn, .inl (cI, 40, .inl f_heldOn)), (a_holder, .inl (cI, 365, .inl f_holder)), (a_standing, .inl (cI, 365, .inl f_standing))] sz)) 0 (0) (va_A [(h, .inr (3, [.ref a_falls, .ref a_ranks, .ref a_standsOn, .ref a_heldOn, .ref a_holder, .ref a_standing, .int v_size])), (a_falls, .inl (cI, 40, .inl f_falls)), (a_ranks, .inl (cI, 40, .inl f_ranks)), (a_standsOn, .inl (cI, 40, .inl f_standsOn)), (a_heldOn, .inl (cI, 40, .inl f_heldOn)), (a_holder, .inl (cI, 365, .inl f_holder)), (a_standing, .inl (cI, 365, .inl f_standing))] sz) := by
  refine rw_ret (cc := cX3_enter) (maxL := 3) (ty := .int) (own := RX3) (by decide) rfl rfl (Nat.le_of_ble_eq_true rfl) ?_
  intro p e s m args below meth c Q A S hin hret hP hK hD hA hS ls hl
  obtain ⟨hx, hb, hml, hown, hts⟩ := id S
  have hl : lv_has ls 3 [(0, .ref h), (1, .int d), (2, .int k)] := hl
  have kkm1 : (-1 : Int32).toInt = -1 := by decide
  have kk0 : (0 : Int32).toInt = 0 := by decide
  have kk1 : (1 : Int32).toInt = 1 := by decide
  have kk40 : (40 : Int32).toInt = 40 := by decide
  have lk0 := hts (.fieldLink RX3 30 "AbbeyHours$Feasts" "size" "I") (mc_X3_enter_r1 _ (List.mem_of_getElem? (i := 0) rfl))
  have lk1 := hts (.fieldLink RX3 11 "AbbeyHours$Feasts" "falls" "[I") (mc_X3_enter_r1 _ (List.mem_of_getElem? (i := 1) rfl))
  have lk2 := hts (.fieldLink RX3 15 "AbbeyHours$Feasts" "ranks" "[I") (mc_X3_enter_r1 _ (List.mem_of_getElem? (i := 2) rfl))
  refine lv_aload_n hx hb dX3_enter_0 rfl (lv_at hl 0 rfl) ?_
  refine va_get (D := D) (ci := 3) (v := .int v_size) (C := RX3) (T := TX3) (N := 7) hx hb hts in_h_enter_X3 hown hK.1 hP 0 rfl rfl 6 (by decide) lk0 (fun _ h9 => h9) rfl dX3_enter_1 ?_
  refine lv_bipush (v := 40) hx hb dX3_enter_4 (by decide) ?_
  refine lv_icmp_lt (tgt := 11) hx hb dX3_enter_6 (by decide) (fun c_1 => ?_) (fun c_1 => ?_)
  · have tc_1 := t_lt c_1
    refine lv_aload_n hx hb dX3_enter_11 rfl (lv_at hl 0 rfl) ?_
    refine va_get (D := D) (ci := 3) (v := .ref a_falls) (C := RX3) (T := TX3) (N := 7) hx hb hts in_h_enter_X3 hown hK.1 hP 0 rfl rfl 0 (by decide) lk1 (fun _ h9 => h9) rfl dX3_enter_12 ?_
    refine lv_aload_n hx hb dX3_enter_15 rfl (lv_at hl 0 rfl) ?_
    refine va_get (D := D) (ci := 3) (v := .int v_size) (C := RX3) (T := TX3) (N := 7) hx hb hts in_h_enter_X3 hown hK.1 hP 0 rfl rfl 6 (by decide) lk0 (fun _ h9 => h9) rfl dX3_enter_16 ?_
    refine lv_iload_n hx hb dX3_enter_19 rfl (lv_at hl 1 rfl) ?_
    refine va_iast hx hb hK.1 hP hD hS 1 0 rfl rfl (t_in (by omega) (by omega)) dX3_enter_20 (fun H locs hP hD hS => ?_)
    obtain ⟨gf, egf⟩ : ∃ z : Nat → Int32, z = upd f_falls ((v_size : Int32).toNatClampNeg) d := ⟨_, rfl⟩
    rw [← egf] at hP hD
    have hP : va_P D vwCl [(h, .inr (3, [.ref a_falls, .ref a_ranks, .ref a_standsOn, .ref a_heldOn, .ref a_holder, .ref a_standing, .int v_size])), (a_falls, .inl (cI, 40, .inl gf)), (a_ranks, .inl (cI, 40, .inl f_ranks)), (a_standsOn, .inl (cI, 40, .inl f_standsOn)), (a_heldOn, .inl (cI, 40, .inl f_heldOn)), (a_holder, .inl (cI, 365, .inl f_holder)), (a_standing, .inl (cI, 365, .inl f_standing))] H := hP
    have hD := asD hP hD
    refine lv_aload_n hx hb dX3_enter_21 rfl (lv_at hl 0 rfl) ?_
    refine va_get (D := D) (ci := 3) (v := .ref a_ranks) (C := RX3) (T := TX3) (N := 7) hx hb hts in_h_enter_X3 hown hK.1 hP 0 rfl rfl 1 (by decide) lk2 (fun _ h9 => h9) rfl dX3_enter_22 ?_
    refine lv_aload_n hx hb dX3_enter_25 rfl (lv_at hl 0 rfl) ?_
    refine va_get (D := D) (ci := 3) (v := .int v_size) (C := RX3) (T := TX3) (N := 7) hx hb hts in_h_enter_X3 hown hK.1 hP 0 rfl rfl 6 (by decide) lk0 (fun _ h9 => h9) rfl dX3_enter_26 ?_
    refine lv_iload_n hx hb dX3_enter_29 rfl (lv_at hl 2 rfl) ?_
    refine va_iast hx hb hK.1 hP hD hS 2 0 rfl rfl (t_in (by omega) (by omega)) dX3_enter_30 (fun H locs hP hD hS => ?_)
    obtain ⟨gk, egk⟩ : ∃ z : Nat → Int32, z = upd f_ranks ((v_size : Int32).toNatClampNeg) k := ⟨_, rfl⟩
    rw [← egk] at hP hD
    have hP : va_P D vwCl [(h, .inr (3, [.ref a_falls, .ref a_ranks, .ref a_standsOn, .ref a_heldOn, .ref a_holder, .ref a_standing, .int v_size])), (a_falls, .inl (cI, 40, .inl gf)), (a_ranks, .inl (cI, 40, .inl gk)), (a_standsOn, .inl (cI, 40, .inl f_standsOn)), (a_heldOn, .inl (cI, 40, .inl f_heldOn)), (a_holder, .inl (cI, 365, .inl f_holder)), (a_standing, .inl (cI, 365, .inl f_standing))] H := hP
    have hD := asD hP hD
    refine lv_aload_n hx hb dX3_enter_31 rfl (lv_at hl 0 rfl) ?_
    refine lv_dup hx hb dX3_enter_32 rfl ?_
    refine va_get (D := D) (ci := 3) (v := .int v_size) (C := RX3) (T := TX3) (N := 7) hx hb hts in_h_enter_X3 hown hK.1 hP 0 rfl rfl 6 (by decide) lk0 (fun _ h9 => h9) rfl dX3_enter_33 ?_
    refine lv_iconst (v := 1) hx hb dX3_enter_36 (by decide) ?_
    refine lv_iadd hx hb dX3_enter_37 ?_
    refine lv_topi (fun nn enn => ?_)
    first | have tnn := t_add enn (by omega) (by omega) | skip
    have hf2 : InR gf nn.toInt 0 365 := by rw [egf]; exact hf.ext (by omega) (by omega) (by omega) (by omega)
    refine va_put (D := D) (ci := 3) (v := .int nn) (ty := .int) (C := RX3) (T := TX3) (N := 7) hx hb hts in_h_enter_X3 tyX3 tyX3_ok nmX3 hown hK.1 hP hD hS 0 rfl rfl 6 (by decide) lk0 (fun _ h9 => h9) rfl (by decide +kernel) rfl rfl (Nat.le_of_ble_eq_true rfl) dX3_enter_38 (fun H locs hP hD hS => ?_)
    have hP : va_P D vwCl [(h, .inr (3, [.ref a_falls, .ref a_ranks, .ref a_standsOn, .ref a_heldOn, .ref a_holder, .ref a_standing, .int nn])), (a_falls, .inl (cI, 40, .inl gf)), (a_ranks, .inl (cI, 40, .inl gk)), (a_standsOn, .inl (cI, 40, .inl f_standsOn)), (a_heldOn, .inl (cI, 40, .inl f_heldOn)), (a_holder, .inl (cI, 365, .inl f_holder)), (a_standing, .inl (cI, 365, .inl f_standing))] H := hP
    have hD := asD hP hD
    refine lv_aload_n hx hb dX3_enter_41 rfl (lv_at hl 0 rfl) ?_
    have hPc := hP.sub (ws' := [(h, .inr (3, [.ref a_falls, .ref a_ranks, .ref a_standsOn, .ref a_heldOn, .ref a_holder, .ref a_standing, .int nn])), (a_falls, .inl (cI, 40, .inl gf)), (a_ranks, .inl (cI, 40, .inl gk)), (a_standsOn, .inl (cI, 40, .inl f_standsOn)), (a_heldOn, .inl (cI, 40, .inl f_heldOn)), (a_holder, .inl (cI, 365, .inl f_holder)), (a_standing, .inl (cI, 365, .inl f_standing))]) [0, 1, 2, 3, 4, 5, 6] rfl
    refine rwVv (As := []) (rest := []) (wc := [(h, .inr (3, [.ref a_falls, .ref a_ranks, .ref a_standsOn, .ref a_heldOn, .ref a_holder, .ref a_standing, .int nn])), (a_falls, .inl (cI, 40, .inl gf)), (a_ranks, .inl (cI, 40, .inl gk)), (a_standsOn, .inl (cI, 40, .inl f_standsOn)), (a_heldOn, .inl (cI, 40, .inl f_heldOn)), (a_holder, .inl (cI, 365, .inl f_holder)), (a_standing, .inl (cI, 365, .inl f_standing))]) (wr := []) S (h_settle  (by omega) (by omega) (hf2)) (cwV 0 hts gX3_enter_X3_settle rfl rfl rfl ⟨rfl, hd_X3_settle⟩ ⟨Nat.le_of_ble_eq_true rfl, Nat.le_of_ble_eq_true rfl⟩) hK hP hD hS hA [0, 1, 2, 3, 4, 5, 6] [] rfl rfl (by decide +kernel) (by decide +kernel) (by decide +kernel) (va_recv hK.1 hPc (ci := 3) (q0 := 0) rfl rfl) rfl hl.1 rfl (Nat.le_of_ble_eq_true rfl) dX3_enter_42 ⟨Nat.le_of_ble_eq_true rfl, Nat.le_of_ble_eq_true rfl⟩ (fun u_st H locs hw_st hP hD hS => ?_)
    obtain ⟨f1_st, f2_st, f3_st, f4_st⟩ := u_st
    have hw_st : (HeldR gf gk nn.toInt f3_st 365 ∧ HoP f2_st f3_st nn.toInt 365) := hw_st
    have hP : va_P D vwCl [(h, .inr (3, [.ref a_falls, .ref a_ranks, .ref a_standsOn, .ref a_heldOn, .ref a_holder, .ref a_standing, .int nn])), (a_falls, .inl (cI, 40, .inl gf)), (a_ranks, .inl (cI, 40, .inl gk)), (a_standsOn, .inl (cI, 40, .inl f1_st)), (a_heldOn, .inl (cI, 40, .inl f2_st)), (a_holder, .inl (cI, 365, .inl f3_st)), (a_standing, .inl (cI, 365, .inl f4_st))] H := hP
    have hD := asD hP hD
    refine lv_aload_n hx hb dX3_enter_45 rfl (lv_at hl 0 rfl) ?_
    refine va_get (D := D) (ci := 3) (v := .int nn) (C := RX3) (T := TX3) (N := 7) hx hb hts in_h_enter_X3 hown hK.1 hP 0 rfl rfl 6 (by decide) lk0 (fun _ h9 => h9) rfl dX3_enter_46 ?_
    refine lv_iconst (v := 1) hx hb dX3_enter_49 (by decide) ?_
    refine lv_isub hx hb dX3_enter_50 ?_
    refine lv_topi (fun x_5 ex_5 => ?_)
    first | have tx_5 := t_sub ex_5 (by omega) (by omega) | skip
    exact hret x_5 (f1_st, f2_st, f3_st, f4_st, nn, gf, gk) _ _ _ _ (show ((v_size.toInt < 40) ∧ x_5.toInt = v_size.toInt ∧ nn = v_size + 1 ∧ gf = upd f_falls v_size.toNatClampNeg d ∧ gk = upd f_ranks v_size.toNatClampNeg k ∧ HeldR gf gk nn.toInt f3_st 365 ∧ HoP f2_st f3_st nn.toInt 365 ∧ InR gf nn.toInt 0 365) ∨ (¬ (v_size.toInt < 40) ∧ x_5.toInt = -1 ∧ nn = v_size ∧ gf = f_falls ∧ gk = f_ranks ∧ f3_st = f_holder ∧ f2_st = f_heldOn) from Or.inl ⟨by omega, by omega, enn, egf, egk, hw_st.1, hw_st.2, hf2⟩) rfl (hP.sub [0, 1, 2, 3, 4, 5, 6] rfl) (hD.sub [0, 1, 2, 3, 4, 5, 6] (by decide +kernel) rfl) hS dX3_enter_51
  · have tc_1 := t_nlt c_1
    refine lv_iconst (v := (-1)) hx hb dX3_enter_9 (by decide) ?_
    exact hret (-1) (f_standsOn, f_heldOn, f_holder, f_standing, v_size, f_falls, f_ranks) _ _ _ _ (show ((v_size.toInt < 40) ∧ (-1 : Int32).toInt = v_size.toInt ∧ v_size = v_size + 1 ∧ f_falls = upd f_falls v_size.toNatClampNeg d ∧ f_ranks = upd f_ranks v_size.toNatClampNeg k ∧ HeldR f_falls f_ranks v_size.toInt f_holder 365 ∧ HoP f_heldOn f_holder v_size.toInt 365 ∧ InR f_falls v_size.toInt 0 365) ∨ (¬ (v_size.toInt < 40) ∧ (-1 : Int32).toInt = -1 ∧ v_size = v_size ∧ f_falls = f_falls ∧ f_ranks = f_ranks ∧ f_holder = f_holder ∧ f_heldOn = f_heldOn) from Or.inr ⟨by omega, by omega, rfl, rfl, rfl, rfl, rfl⟩) rfl (hP.sub [0, 1, 2, 3, 4, 5, 6] rfl) (hD.sub [0, 1, 2, 3, 4, 5, 6] (by decide +kernel) rfl) hS dX3_enter_10

