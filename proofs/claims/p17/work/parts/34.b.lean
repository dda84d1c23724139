theorem in_r_inForceE_X7 : ∀ w ∈ wsX70, w ∈ wsX7_inForce := tl_X7_inForce_X7
set_option maxHeartbeats 8000000 in
set_option maxRecDepth 100000 in
theorem r_inForceE {l : Launch} {D : va_G} {cI cZ cB : ClassId} {h a_since a_sizes a_kinds a_firsts a_seconds : Nat} {v_size : Int32} {f_since : Nat → Int32} {d : Int32} (hv_size0 : 0 ≤ v_size.toInt) (hv_size1 : v_size.toInt ≤ 10) : Met l yX7_inForce wsX7_inForce ({ frames := 0, cells := 0, slots := 0, locals := 0 }) (RO D cI cZ cB [.ref h, .int d] [(h, .inr (7, [.ref a_since, .ref a_sizes, .ref a_kinds, .ref a_firsts, .ref a_seconds, .int v_size])), (a_since, .inl (cI, 10, .inl f_since))]) (vp_Si (fun r : Int32 => IsPick (okIn f_since d.toInt) keyL v_size.toInt r)) 0 0 (fun _ => False) := by
  refine ro_ret (cc := cX7_inForce) (maxL := 3) (ty := .int) (own := RX7) (by decide) rfl rfl (Nat.le_of_ble_eq_true rfl) ?_
  intro p e s m args below meth c Q S hret hP hK ls hl
  obtain ⟨hx, hb, hml, hown, hts⟩ := id S
  have hl : lv_has ls 3 [(0, .ref h), (1, .int d)] := hl
  have kkm1 : (-1 : Int32).toInt = -1 := by decide
  have kk0 : (0 : Int32).toInt = 0 := by decide
  have kk1 : (1 : Int32).toInt = 1 := by decide
  have lk0 := hts (.fieldLink RX7 29 "AbbeyHours$Rules" "size" "I") (List.mem_cons_of_mem _ (List.mem_append_left _ (List.mem_of_getElem? (i := 0) rfl)))
  have lk1 := hts (.fieldLink RX7 13 "AbbeyHours$Rules" "since" "[I") (List.mem_cons_of_mem _ (List.mem_append_left _ (List.mem_of_getElem? (i := 1) rfl)))
  refine lv_aload_n hx hb dX7_inForce_0 rfl (lv_at hl 0 rfl) ?_
  refine va_get (D := D) (ci := 7) (v := .int v_size) (C := RX7) (T := TX7) (N := 6) hx hb hts in_r_inForceE_X7 hown hK.1 hP 0 rfl rfl 5 (by decide) lk0 (fun _ h9 => h9) rfl dX7_inForce_1 ?_
  refine lv_iconst (v := 1) hx hb dX7_inForce_4 (by decide) ?_
  refine lv_isub hx hb dX7_inForce_5 ?_
  refine lv_topi (fun x_1 ex_1 => ?_)
  first | have tx_1 := t_sub ex_1 (by omega) (by omega) | skip
  refine lv_istore_n (lv' := [(2, .int x_1), (0, .ref h), (1, .int d)]) hx hb dX7_inForce_6 rfl hl (by decide) rfl (fun ls hl => ?_)
  have loop7 : ∀ (fuel : Nat) (j : Int32), j.toInt + 1 < (fuel : Int) → (-1 ≤ j.toInt) → (j.toInt < v_size.toInt) → (∀ q_ : Nat, j.toInt < (q_ : Int) → (q_ : Int) < v_size.toInt → ¬ okIn f_since d.toInt q_) → ∀ ls : Array Slot, lv_has ls 3 [(2, .int j), (0, .ref h), (1, .int d)] → W p l e ({ frames := 0, cells := 0, slots := 0, locals := 0 } : Room) s m args below meth c s.heap [] 0 0 Q (F0 m 7 ls []) := by
    intro fuel
    induction fuel with
    | zero =>
      intro j hmu hj0 hj1 hno ls hl
      exfalso; omega
    | succ fuel ih7 =>
      intro j hmu hj0 hj1 hno ls hl
      refine lv_iload_n hx hb dX7_inForce_7 rfl (lv_at hl 0 rfl) ?_
      refine lv_if_lt (tgt := 29) hx hb dX7_inForce_8 (by decide) (fun c_2 => ?_) (fun c_2 => ?_)
      · have tc_2 := t_lt c_2
        refine lv_iconst (v := (-1)) hx hb dX7_inForce_29 (by decide) ?_
        exact hret (-1) _ _ (show IsPick (okIn f_since d.toInt) keyL v_size.toInt (-1 : Int32) from Or.inl ⟨by omega, fun q_ hq => hno q_ (by omega) hq⟩) rfl dX7_inForce_30
      · have tc_2 := t_nlt c_2
        refine lv_aload_n hx hb dX7_inForce_11 rfl (lv_at hl 1 rfl) ?_
        refine va_get (D := D) (ci := 7) (v := .ref a_since) (C := RX7) (T := TX7) (N := 6) hx hb hts in_r_inForceE_X7 hown hK.1 hP 0 rfl rfl 0 (by decide) lk1 (fun _ h9 => h9) rfl dX7_inForce_12 ?_
        refine lv_iload_n hx hb dX7_inForce_15 rfl (lv_at hl 0 rfl) ?_
        refine va_iald hx hb hK.1 hP 1 0 rfl rfl (t_in (by omega) (by omega)) dX7_inForce_16 ?_
        refine lv_topi (fun yv eyv => ?_)
        refine lv_iload_n hx hb dX7_inForce_17 rfl (lv_at hl 2 rfl) ?_
        refine lv_icmp_gt (tgt := 23) hx hb dX7_inForce_18 (by decide) (fun c_4 => ?_) (fun c_4 => ?_)
        · have tc_4 := t_lt c_4
          obtain ⟨x_5, ex_5⟩ : ∃ y : Int32, y = j + (-1) := ⟨_, rfl⟩
          refine lv_iinc (v := x_5) (lv' := [(2, .int x_5), (0, .ref h), (1, .int d)]) hx hb dX7_inForce_23 hl (k := 0) rfl (by rw [ex_5]; rfl) (by decide) rfl (fun ls hl => ?_)
          first | have tx_5 := t_add ex_5 (by omega) (by omega) | skip
          refine lv_goto (tgt := 7) hx hb dX7_inForce_26 (by decide) ?_
          exact ih7 x_5 (by omega) (by omega) (by omega) (fun q_ h1 h2 => by have := t_cl (x := j) (by omega); by_cases z : q_ = j.toNatClampNeg; (rw [z]; exact (by show ¬ (f_since _).toInt ≤ _; rw [← eyv]; omega)); exact hno q_ (by omega) h2) ls (lv_sub hl [0, 1, 2] rfl)
        · have tc_4 := t_nlt c_4
          refine lv_iload_n hx hb dX7_inForce_21 rfl (lv_at hl 0 rfl) ?_
          exact hret j _ _ (show IsPick (okIn f_since d.toInt) keyL v_size.toInt j from IsPick.last (by omega) (by omega) (by show (f_since _).toInt ≤ _; rw [← eyv]; omega) hno) rfl dX7_inForce_22
  exact loop7 ((x_1.toInt + 1).toNat + 1) x_1 (by omega) (by omega) (by omega) (fun q_ h1 h2 => by exfalso; omega) ls (lv_sub hl [0, 1, 2] rfl)

theorem in_r_tellsE_X7 : ∀ w ∈ wsX70, w ∈ wsX7_tellsFast := tl_X7_tellsFast_X7
set_option maxHeartbeats 8000000 in
set_option maxRecDepth 100000 in
theorem r_tellsE {l : Launch} {D : va_G} {cI cZ cB : ClassId} {h a_since a_sizes a_kinds a_firsts a_seconds : Nat} {v_size : Int32} {f_kinds f_firsts f_seconds : Nat → Int32} {i d : Int32} (hi0 : 0 ≤ i.toInt) (hi1 : i.toInt < 160) : Met l yX7_tellsFast wsX7_tellsFast ({ frames := 0, cells := 0, slots := 0, locals := 0 }) (RO D cI cZ cB [.ref h, .int i, .int d] [(h, .inr (7, [.ref a_since, .ref a_sizes, .ref a_kinds, .ref a_firsts, .ref a_seconds, .int v_size])), (a_kinds, .inl (cI, 160, .inl f_kinds)), (a_firsts, .inl (cI, 160, .inl f_firsts)), (a_seconds, .inl (cI, 160, .inl f_seconds))]) (vp_Si (fun r : Int32 => (r.toInt = 1 ∧ TellP 1 (f_kinds i.toNatClampNeg) (f_firsts i.toNatClampNeg) (f_seconds i.toNatClampNeg) d) ∨ (r.toInt = 0 ∧ ¬ TellP 1 (f_kinds i.toNatClampNeg) (f_firsts i.toNatClampNeg) (f_seconds i.toNatClampNeg) d))) 0 0 (fun _ => False) := by
  refine ro_ret (cc := cX7_tellsFast) (maxL := 6) (ty := .boolean) (own := RX7) (by decide) rfl rfl (Nat.le_of_ble_eq_true rfl) ?_
  intro p e s m args below meth c Q S hret hP hK ls hl
  obtain ⟨hx, hb, hml, hown, hts⟩ := id S
  have hl : lv_has ls 6 [(0, .ref h), (1, .int i), (2, .int d)] := hl
  have kk0 : (0 : Int32).toInt = 0 := by decide
  have kk1 : (1 : Int32).toInt = 1 := by decide
  have kk2 : (2 : Int32).toInt = 2 := by decide
  have kk7 : (7 : Int32).toInt = 7 := by decide
  have kk365 : (365 : Int32).toInt = 365 := by decide
  have lk0 := hts (.fieldLink RX7 20 "AbbeyHours$Rules" "kinds" "[I") (List.mem_cons_of_mem _ (List.mem_append_left _ (List.mem_of_getElem? (i := 0) rfl)))
  have lk1 := hts (.fieldLink RX7 23 "AbbeyHours$Rules" "firsts" "[I") (List.mem_cons_of_mem _ (List.mem_append_left _ (List.mem_of_getElem? (i := 1) rfl)))
  have lk2 := hts (.fieldLink RX7 26 "AbbeyHours$Rules" "seconds" "[I") (List.mem_cons_of_mem _ (List.mem_append_left _ (List.mem_of_getElem? (i := 2) rfl)))
  refine lv_iload_n hx hb dX7_tellsFast_0 rfl (lv_at hl 2 rfl) ?_
  refine lv_sipush (v := 365) hx hb dX7_tellsFast_1 (by decide) ?_
  refine lv_irem hx hb dX7_tellsFast_4 (by decide) ?_
  refine lv_topi (fun m3 em3 => ?_)
  refine lv_istore_n (lv' := [(3, .int m3), (0, .ref h), (1, .int i), (2, .int d)]) hx hb dX7_tellsFast_5 rfl hl (by decide) rfl (fun ls hl => ?_)
  refine lv_aload_n hx hb dX7_tellsFast_6 rfl (lv_at hl 1 rfl) ?_
  refine va_get (D := D) (ci := 7) (v := .ref a_kinds) (C := RX7) (T := TX7) (N := 6) hx hb hts in_r_tellsE_X7 hown hK.1 hP 0 rfl rfl 2 (by decide) lk0 (fun _ h9 => h9) rfl dX7_tellsFast_7 ?_
  refine lv_iload_n hx hb dX7_tellsFast_10 rfl (lv_at hl 2 rfl) ?_
  refine va_iald hx hb hK.1 hP 1 0 rfl rfl (t_in (by omega) (by omega)) dX7_tellsFast_11 ?_
  refine lv_topi (fun yk eyk => ?_)
  refine lv_iconst (v := 1) hx hb dX7_tellsFast_12 (by decide) ?_
  refine lv_icmp_ne (tgt := 35) hx hb dX7_tellsFast_13 (by decide) (fun c_3 => ?_) (fun c_3 => ?_)
  · have tc_3 := t_neq c_3
    refine lv_aload_n hx hb dX7_tellsFast_35 rfl (lv_at hl 1 rfl) ?_
    refine va_get (D := D) (ci := 7) (v := .ref a_kinds) (C := RX7) (T := TX7) (N := 6) hx hb hts in_r_tellsE_X7 hown hK.1 hP 0 rfl rfl 2 (by decide) lk0 (fun _ h9 => h9) rfl dX7_tellsFast_36 ?_
    refine lv_iload_n hx hb dX7_tellsFast_39 rfl (lv_at hl 2 rfl) ?_
    refine va_iald hx hb hK.1 hP 1 0 rfl rfl (t_in (by omega) (by omega)) dX7_tellsFast_40 ?_
    refine lv_topi (fun yl eyl => ?_)
    refine lv_iconst (v := 2) hx hb dX7_tellsFast_41 (by decide) ?_
    refine lv_icmp_eq (tgt := 47) hx hb dX7_tellsFast_42 (by decide) (fun c_5 => ?_) (fun c_5 => ?_)
    · have tc_5 := t_eq c_5
      refine lv_iload_n hx hb dX7_tellsFast_47 rfl (lv_at hl 0 rfl) ?_
      refine lv_aload_n hx hb dX7_tellsFast_48 rfl (lv_at hl 1 rfl) ?_
      refine va_get (D := D) (ci := 7) (v := .ref a_firsts) (C := RX7) (T := TX7) (N := 6) hx hb hts in_r_tellsE_X7 hown hK.1 hP 0 rfl rfl 3 (by decide) lk1 (fun _ h9 => h9) rfl dX7_tellsFast_49 ?_
      refine lv_iload_n hx hb dX7_tellsFast_52 rfl (lv_at hl 2 rfl) ?_
      refine va_iald hx hb hK.1 hP 2 0 rfl rfl (t_in (by omega) (by omega)) dX7_tellsFast_53 ?_
      refine lv_topi (fun yg eyg => ?_)
      refine lv_icmp_lt (tgt := 61) hx hb dX7_tellsFast_54 (by decide) (fun c_7 => ?_) (fun c_7 => ?_)
      · have tc_7 := t_lt c_7
        refine lv_iconst (v := 0) hx hb dX7_tellsFast_61 (by decide) ?_
        refine lv_istore (lv' := [(4, .int 0), (3, .int m3), (0, .ref h), (1, .int i), (2, .int d)]) hx hb dX7_tellsFast_62 hl (by decide) rfl (fun ls hl => ?_)
        refine lv_iload_n hx hb dX7_tellsFast_64 rfl (lv_at hl 1 rfl) ?_
        refine lv_aload_n hx hb dX7_tellsFast_65 rfl (lv_at hl 2 rfl) ?_
        refine va_get (D := D) (ci := 7) (v := .ref a_seconds) (C := RX7) (T := TX7) (N := 6) hx hb hts in_r_tellsE_X7 hown hK.1 hP 0 rfl rfl 4 (by decide) lk2 (fun _ h9 => h9) rfl dX7_tellsFast_66 ?_
        refine lv_iload_n hx hb dX7_tellsFast_69 rfl (lv_at hl 3 rfl) ?_
        refine va_iald hx hb hK.1 hP 3 0 rfl rfl (t_in (by omega) (by omega)) dX7_tellsFast_70 ?_
        refine lv_topi (fun ys eys => ?_)
        refine lv_icmp_gt (tgt := 78) hx hb dX7_tellsFast_71 (by decide) (fun c_9 => ?_) (fun c_9 => ?_)
        · have tc_9 := t_lt c_9
          refine lv_iconst (v := 0) hx hb dX7_tellsFast_78 (by decide) ?_
          refine lv_istore (lv' := [(5, .int 0), (4, .int 0), (3, .int m3), (0, .ref h), (1, .int i), (2, .int d)]) hx hb dX7_tellsFast_79 hl (by decide) rfl (fun ls hl => ?_)
          refine lv_aload_n hx hb dX7_tellsFast_81 rfl (lv_at hl 3 rfl) ?_
          refine va_get (D := D) (ci := 7) (v := .ref a_seconds) (C := RX7) (T := TX7) (N := 6) hx hb hts in_r_tellsE_X7 hown hK.1 hP 0 rfl rfl 4 (by decide) lk2 (fun _ h9 => h9) rfl dX7_tellsFast_82 ?_
          refine lv_iload_n hx hb dX7_tellsFast_85 rfl (lv_at hl 4 rfl) ?_
          refine va_iald hx hb hK.1 hP 3 0 rfl rfl (t_in (by omega) (by omega)) dX7_tellsFast_86 ?_
          refine lv_topi (fun yt eyt => ?_)
          refine lv_aload_n hx hb dX7_tellsFast_87 rfl (lv_at hl 3 rfl) ?_
          refine va_get (D := D) (ci := 7) (v := .ref a_firsts) (C := RX7) (T := TX7) (N := 6) hx hb hts in_r_tellsE_X7 hown hK.1 hP 0 rfl rfl 3 (by decide) lk1 (fun _ h9 => h9) rfl dX7_tellsFast_88 ?_
          refine lv_iload_n hx hb dX7_tellsFast_91 rfl (lv_at hl 4 rfl) ?_
          refine va_iald hx hb hK.1 hP 2 0 rfl rfl (t_in (by omega) (by omega)) dX7_tellsFast_92 ?_
          refine lv_topi (fun yh eyh => ?_)
          refine lv_icmp_ge (tgt := 114) hx hb dX7_tellsFast_93 (by decide) (fun c_12 => ?_) (fun c_12 => ?_)
          · have tc_12 := t_le c_12
            refine lv_iload hx hb dX7_tellsFast_114 (lv_at hl 1 rfl) ?_
            refine lv_if_eq (tgt := 128) hx hb dX7_tellsFast_116 (by decide) (fun c_13 => ?_) (fun c_13 => ?_)
            · have tc_13 := t_eq c_13
              refine lv_iconst (v := 0) hx hb dX7_tellsFast_128 (by decide) ?_
              exact hret 0 _ _ (show ((0 : Int32).toInt = 1 ∧ TellP 1 (f_kinds i.toNatClampNeg) (f_firsts i.toNatClampNeg) (f_seconds i.toNatClampNeg) d) ∨ ((0 : Int32).toInt = 0 ∧ ¬ TellP 1 (f_kinds i.toNatClampNeg) (f_firsts i.toNatClampNeg) (f_seconds i.toNatClampNeg) d) from by (first | have a0 := t_eq eyk | skip); (first | have a1 := t_eq eyl | skip); (first | have a2 := t_eq eyf | skip); (first | have a3 := t_eq eyg | skip); (first | have a4 := t_eq eyh | skip); (first | have a5 := t_eq eys | skip); (first | have a6 := t_eq eyt | skip); (first | have a7 := t_eq em3 | skip); (first | have a8 := t_eq em7 | skip); unfold TellP rmF; omega) rfl dX7_tellsFast_129
            · exact absurd c_13 (by decide)
          · have tc_12 := t_nle c_12
            refine lv_iload hx hb dX7_tellsFast_96 (lv_at hl 1 rfl) ?_
            refine lv_if_ne (tgt := 106) hx hb dX7_tellsFast_98 (by decide) (fun c_14 => ?_) (fun c_14 => ?_)
            · exact absurd c_14 (by decide)
            · have tc_14 := t_eq c_14
              refine lv_iload hx hb dX7_tellsFast_101 (lv_at hl 0 rfl) ?_
              refine lv_if_eq (tgt := 110) hx hb dX7_tellsFast_103 (by decide) (fun c_15 => ?_) (fun c_15 => ?_)
              · have tc_15 := t_eq c_15
                refine lv_iconst (v := 0) hx hb dX7_tellsFast_110 (by decide) ?_
                refine lv_goto (tgt := 129) hx hb dX7_tellsFast_111 (by decide) ?_
                exact hret 0 _ _ (show ((0 : Int32).toInt = 1 ∧ TellP 1 (f_kinds i.toNatClampNeg) (f_firsts i.toNatClampNeg) (f_seconds i.toNatClampNeg) d) ∨ ((0 : Int32).toInt = 0 ∧ ¬ TellP 1 (f_kinds i.toNatClampNeg) (f_firsts i.toNatClampNeg) (f_seconds i.toNatClampNeg) d) from by (first | have a0 := t_eq eyk | skip); (first | have a1 := t_eq eyl | skip); (first | have a2 := t_eq eyf | skip); (first | have a3 := t_eq eyg | skip); (first | have a4 := t_eq eyh | skip); (first | have a5 := t_eq eys | skip); (first | have a6 := t_eq eyt | skip); (first | have a7 := t_eq em3 | skip); (first | have a8 := t_eq em7 | skip); unfold TellP rmF; omega) rfl dX7_tellsFast_129
              · exact absurd c_15 (by decide)
        · have tc_9 := t_nlt c_9
          refine lv_iconst (v := 1) hx hb dX7_tellsFast_74 (by decide) ?_
          refine lv_goto (tgt := 79) hx hb dX7_tellsFast_75 (by decide) ?_
          refine lv_istore (lv' := [(5, .int 1), (4, .int 0), (3, .int m3), (0, .ref h), (1, .int i), (2, .int d)]) hx hb dX7_tellsFast_79 hl (by decide) rfl (fun ls hl => ?_)
          refine lv_aload_n hx hb dX7_tellsFast_81 rfl (lv_at hl 3 rfl) ?_
          refine va_get (D := D) (ci := 7) (v := .ref a_seconds) (C := RX7) (T := TX7) (N := 6) hx hb hts in_r_tellsE_X7 hown hK.1 hP 0 rfl rfl 4 (by decide) lk2 (fun _ h9 => h9) rfl dX7_tellsFast_82 ?_
          refine lv_iload_n hx hb dX7_tellsFast_85 rfl (lv_at hl 4 rfl) ?_
          refine va_iald hx hb hK.1 hP 3 0 rfl rfl (t_in (by omega) (by omega)) dX7_tellsFast_86 ?_
          refine lv_topi (fun yt eyt => ?_)
          refine lv_aload_n hx hb dX7_tellsFast_87 rfl (lv_at hl 3 rfl) ?_
          refine va_get (D := D) (ci := 7) (v := .ref a_firsts) (C := RX7) (T := TX7) (N := 6) hx hb hts in_r_tellsE_X7 hown hK.1 hP 0 rfl rfl 3 (by decide) lk1 (fun _ h9 => h9) rfl dX7_tellsFast_88 ?_
          refine lv_iload_n hx hb dX7_tellsFast_91 rfl (lv_at hl 4 rfl) ?_
          refine va_iald hx hb hK.1 hP 2 0 rfl rfl (t_in (by omega) (by omega)) dX7_tellsFast_92 ?_
          refine lv_topi (fun yh eyh => ?_)
          refine lv_icmp_ge (tgt := 114) hx hb dX7_tellsFast_93 (by decide) (fun c_18 => ?_) (fun c_18 => ?_)
          · have tc_18 := t_le c_18
            refine lv_iload hx hb dX7_tellsFast_114 (lv_at hl 1 rfl) ?_
            refine lv_if_eq (tgt := 128) hx hb dX7_tellsFast_116 (by decide) (fun c_19 => ?_) (fun c_19 => ?_)
            · have tc_19 := t_eq c_19
              refine lv_iconst (v := 0) hx hb dX7_tellsFast_128 (by decide) ?_
              exact hret 0 _ _ (show ((0 : Int32).toInt = 1 ∧ TellP 1 (f_kinds i.toNatClampNeg) (f_firsts i.toNatClampNeg) (f_seconds i.toNatClampNeg) d) ∨ ((0 : Int32).toInt = 0 ∧ ¬ TellP 1 (f_kinds i.toNatClampNeg) (f_firsts i.toNatClampNeg) (f_seconds i.toNatClampNeg) d) from by (first | have a0 := t_eq eyk | skip); (first | have a1 := t_eq eyl | skip); (first | have a2 := t_eq eyf | skip); (first | have a3 := t_eq eyg | skip); (first | have a4 := t_eq eyh | skip); (first | have a5 := t_eq eys | skip); (first | have a6 := t_eq eyt | skip); (first | have a7 := t_eq em3 | skip); (first | have a8 := t_eq em7 | skip); unfold TellP rmF; omega) rfl dX7_tellsFast_129
            · exact absurd c_19 (by decide)
          · have tc_18 := t_nle c_18
            refine lv_iload hx hb dX7_tellsFast_96 (lv_at hl 1 rfl) ?_
            refine lv_if_ne (tgt := 106) hx hb dX7_tellsFast_98 (by decide) (fun c_20 => ?_) (fun c_20 => ?_)
            · exact absurd c_20 (by decide)
            · have tc_20 := t_eq c_20
              refine lv_iload hx hb dX7_tellsFast_101 (lv_at hl 0 rfl) ?_
              refine lv_if_eq (tgt := 110) hx hb dX7_tellsFast_103 (by decide) (fun c_21 => ?_) (fun c_21 => ?_)
              · exact absurd c_21 (by decide)
              · have tc_21 := t_neq c_21
                refine lv_iconst (v := 1) hx hb dX7_tellsFast_106 (by decide) ?_
                refine lv_goto (tgt := 129) hx hb dX7_tellsFast_107 (by decide) ?_
                exact hret 1 _ _ (show ((1 : Int32).toInt = 1 ∧ TellP 1 (f_kinds i.toNatClampNeg) (f_firsts i.toNatClampNeg) (f_seconds i.toNatClampNeg) d) ∨ ((1 : Int32).toInt = 0 ∧ ¬ TellP 1 (f_kinds i.toNatClampNeg) (f_firsts i.toNatClampNeg) (f_seconds i.toNatClampNeg) d) from by (first | have a0 := t_eq eyk | skip); (first | have a1 := t_eq eyl | skip); (first | have a2 := t_eq eyf | skip); (first | have a3 := t_eq eyg | skip); (first | have a4 := t_eq eyh | skip); (first | have a5 := t_eq eys | skip); (first | have a6 := t_eq eyt | skip); (first | have a7 := t_eq em3 | skip); (first | have a8 := t_eq em7 | skip); unfold TellP rmF; omega) rfl dX7_tellsFast_129
      · have tc_7 := t_nlt c_7
        refine lv_iconst (v := 1) hx hb dX7_tellsFast_57 (by decide) ?_
        refine lv_goto (tgt := 62) hx hb dX7_tellsFast_58 (by decide) ?_
        refine lv_istore (lv' := [(4, .int 1), (3, .int m3), (0, .ref h), (1, .int i), (2, .int d)]) hx hb dX7_tellsFast_62 hl (by decide) rfl (fun ls hl => ?_)
        refine lv_iload_n hx hb dX7_tellsFast_64 rfl (lv_at hl 1 rfl) ?_
        refine lv_aload_n hx hb dX7_tellsFast_65 rfl (lv_at hl 2 rfl) ?_
        refine va_get (D := D) (ci := 7) (v := .ref a_seconds) (C := RX7) (T := TX7) (N := 6) hx hb hts in_r_tellsE_X7 hown hK.1 hP 0 rfl rfl 4 (by decide) lk2 (fun _ h9 => h9) rfl dX7_tellsFast_66 ?_
        refine lv_iload_n hx hb dX7_tellsFast_69 rfl (lv_at hl 3 rfl) ?_
        refine va_iald hx hb hK.1 hP 3 0 rfl rfl (t_in (by omega) (by omega)) dX7_tellsFast_70 ?_
        refine lv_topi (fun ys eys => ?_)
        refine lv_icmp_gt (tgt := 78) hx hb dX7_tellsFast_71 (by decide) (fun c_23 => ?_) (fun c_23 => ?_)
        · have tc_23 := t_lt c_23
          refine lv_iconst (v := 0) hx hb dX7_tellsFast_78 (by decide) ?_
          refine lv_istore (lv' := [(5, .int 0), (4, .int 1), (3, .int m3), (0, .ref h), (1, .int i), (2, .int d)]) hx hb dX7_tellsFast_79 hl (by decide) rfl (fun ls hl => ?_)
          refine lv_aload_n hx hb dX7_tellsFast_81 rfl (lv_at hl 3 rfl) ?_
          refine va_get (D := D) (ci := 7) (v := .ref a_seconds) (C := RX7) (T := TX7) (N := 6) hx hb hts in_r_tellsE_X7 hown hK.1 hP 0 rfl rfl 4 (by decide) lk2 (fun _ h9 => h9) rfl dX7_tellsFast_82 ?_
          refine lv_iload_n hx hb dX7_tellsFast_85 rfl (lv_at hl 4 rfl) ?_
          refine va_iald hx hb hK.1 hP 3 0 rfl rfl (t_in (by omega) (by omega)) dX7_tellsFast_86 ?_
          refine lv_topi (fun yt eyt => ?_)
          refine lv_aload_n hx hb dX7_tellsFast_87 rfl (lv_at hl 3 rfl) ?_
          refine va_get (D := D) (ci := 7) (v := .ref a_firsts) (C := RX7) (T := TX7) (N := 6) hx hb hts in_r_tellsE_X7 hown hK.1 hP 0 rfl rfl 3 (by decide) lk1 (fun _ h9 => h9) rfl dX7_tellsFast_88 ?_
          refine lv_iload_n hx hb dX7_tellsFast_91 rfl (lv_at hl 4 rfl) ?_
          refine va_iald hx hb hK.1 hP 2 0 rfl rfl (t_in (by omega) (by omega)) dX7_tellsFast_92 ?_
          refine lv_topi (fun yh eyh => ?_)
          refine lv_icmp_ge (tgt := 114) hx hb dX7_tellsFast_93 (by decide) (fun c_26 => ?_) (fun c_26 => ?_)
          · have tc_26 := t_le c_26
            refine lv_iload hx hb dX7_tellsFast_114 (lv_at hl 1 rfl) ?_
            refine lv_if_eq (tgt := 128) hx hb dX7_tellsFast_116 (by decide) (fun c_27 => ?_) (fun c_27 => ?_)
            · exact absurd c_27 (by decide)
            · have tc_27 := t_neq c_27
              refine lv_iload hx hb dX7_tellsFast_119 (lv_at hl 0 rfl) ?_
              refine lv_if_eq (tgt := 128) hx hb dX7_tellsFast_121 (by decide) (fun c_28 => ?_) (fun c_28 => ?_)
              · have tc_28 := t_eq c_28
                refine lv_iconst (v := 0) hx hb dX7_tellsFast_128 (by decide) ?_
                exact hret 0 _ _ (show ((0 : Int32).toInt = 1 ∧ TellP 1 (f_kinds i.toNatClampNeg) (f_firsts i.toNatClampNeg) (f_seconds i.toNatClampNeg) d) ∨ ((0 : Int32).toInt = 0 ∧ ¬ TellP 1 (f_kinds i.toNatClampNeg) (f_firsts i.toNatClampNeg) (f_seconds i.toNatClampNeg) d) from by (first | have a0 := t_eq eyk | skip); (first | have a1 := t_eq eyl | skip); (first | have a2 := t_eq eyf | skip); (first | have a3 := t_eq eyg | skip); (first | have a4 := t_eq eyh | skip); (first | have a5 := t_eq eys | skip); (first | have a6 := t_eq eyt | skip); (first | have a7 := t_eq em3 | skip); (first | have a8 := t_eq em7 | skip); unfold TellP rmF; omega) rfl dX7_tellsFast_129
              · exact absurd c_28 (by decide)
          · have tc_26 := t_nle c_26
            refine lv_iload hx hb dX7_tellsFast_96 (lv_at hl 1 rfl) ?_
            refine lv_if_ne (tgt := 106) hx hb dX7_tellsFast_98 (by decide) (fun c_29 => ?_) (fun c_29 => ?_)
            · have tc_29 := t_neq c_29
              refine lv_iconst (v := 1) hx hb dX7_tellsFast_106 (by decide) ?_
              refine lv_goto (tgt := 129) hx hb dX7_tellsFast_107 (by decide) ?_
              exact hret 1 _ _ (show ((1 : Int32).toInt = 1 ∧ TellP 1 (f_kinds i.toNatClampNeg) (f_firsts i.toNatClampNeg) (f_seconds i.toNatClampNeg) d) ∨ ((1 : Int32).toInt = 0 ∧ ¬ TellP 1 (f_kinds i.toNatClampNeg) (f_firsts i.toNatClampNeg) (f_seconds i.toNatClampNeg) d) from by (first | have a0 := t_eq eyk | skip); (first | have a1 := t_eq eyl | skip); (first | have a2 := t_eq eyf | skip); (first | have a3 := t_eq eyg | skip); (first | have a4 := t_eq eyh | skip); (first | have a5 := t_eq eys | skip); (first | have a6 := t_eq eyt | skip); (first | have a7 := t_eq em3 | skip); (first | have a8 := t_eq em7 | skip); unfold TellP rmF; omega) rfl dX7_tellsFast_129
            · exact absurd c_29 (by decide)
        · have tc_23 := t_nlt c_23
          refine lv_iconst (v := 1) hx hb dX7_tellsFast_74 (by decide) ?_
          refine lv_goto (tgt := 79) hx hb dX7_tellsFast_75 (by decide) ?_
          refine lv_istore (lv' := [(5, .int 1), (4, .int 1), (3, .int m3), (0, .ref h), (1, .int i), (2, .int d)]) hx hb dX7_tellsFast_79 hl (by decide) rfl (fun ls hl => ?_)
          refine lv_aload_n hx hb dX7_tellsFast_81 rfl (lv_at hl 3 rfl) ?_
          refine va_get (D := D) (ci := 7) (v := .ref a_seconds) (C := RX7) (T := TX7) (N := 6) hx hb hts in_r_tellsE_X7 hown hK.1 hP 0 rfl rfl 4 (by decide) lk2 (fun _ h9 => h9) rfl dX7_tellsFast_82 ?_
          refine lv_iload_n hx hb dX7_tellsFast_85 rfl (lv_at hl 4 rfl) ?_
          refine va_iald hx hb hK.1 hP 3 0 rfl rfl (t_in (by omega) (by omega)) dX7_tellsFast_86 ?_
          refine lv_topi (fun yt eyt => ?_)
          refine lv_aload_n hx hb dX7_tellsFast_87 rfl (lv_at hl 3 rfl) ?_
          refine va_get (D := D) (ci := 7) (v := .ref a_firsts) (C := RX7) (T := TX7) (N := 6) hx hb hts in_r_tellsE_X7 hown hK.1 hP 0 rfl rfl 3 (by decide) lk1 (fun _ h9 => h9) rfl dX7_tellsFast_88 ?_
          refine lv_iload_n hx hb dX7_tellsFast_91 rfl (lv_at hl 4 rfl) ?_
          refine va_iald hx hb hK.1 hP 2 0 rfl rfl (t_in (by omega) (by omega)) dX7_tellsFast_92 ?_
          refine lv_topi (fun yh eyh => ?_)
          refine lv_icmp_ge (tgt := 114) hx hb dX7_tellsFast_93 (by decide) (fun c_32 => ?_) (fun c_32 => ?_)
          · have tc_32 := t_le c_32
            refine lv_iload hx hb dX7_tellsFast_114 (lv_at hl 1 rfl) ?_
            refine lv_if_eq (tgt := 128) hx hb dX7_tellsFast_116 (by decide) (fun c_33 => ?_) (fun c_33 => ?_)
            · exact absurd c_33 (by decide)
            · have tc_33 := t_neq c_33
              refine lv_iload hx hb dX7_tellsFast_119 (lv_at hl 0 rfl) ?_
              refine lv_if_eq (tgt := 128) hx hb dX7_tellsFast_121 (by decide) (fun c_34 => ?_) (fun c_34 => ?_)
              · exact absurd c_34 (by decide)
              · have tc_34 := t_neq c_34
                refine lv_iconst (v := 1) hx hb dX7_tellsFast_124 (by decide) ?_
                refine lv_goto (tgt := 129) hx hb dX7_tellsFast_125 (by decide) ?_
                exact hret 1 _ _ (show ((1 : Int32).toInt = 1 ∧ TellP 1 (f_kinds i.toNatClampNeg) (f_firsts i.toNatClampNeg) (f_seconds i.toNatClampNeg) d) ∨ ((1 : Int32).toInt = 0 ∧ ¬ TellP 1 (f_kinds i.toNatClampNeg) (f_firsts i.toNatClampNeg) (f_seconds i.toNatClampNeg) d) from by (first | have a0 := t_eq eyk | skip); (first | have a1 := t_eq eyl | skip); (first | have a2 := t_eq eyf | skip); (first | have a3 := t_eq eyg | skip); (first | have a4 := t_eq eyh | skip); (first | have a5 := t_eq eys | skip); (first | have a6 := t_eq eyt | skip); (first | have a7 := t_eq em3 | skip); (first | have a8 := t_eq em7 | skip); unfold TellP rmF; omega) rfl dX7_tellsFast_129
          · have tc_32 := t_nle c_32
            refine lv_iload hx hb dX7_tellsFast_96 (lv_at hl 1 rfl) ?_
            refine lv_if_ne (tgt := 106) hx hb dX7_tellsFast_98 (by decide) (fun c_35 => ?_) (fun c_35 => ?_)
            · have tc_35 := t_neq c_35
              refine lv_iconst (v := 1) hx hb dX7_tellsFast_106 (by decide) ?_
              refine lv_goto (tgt := 129) hx hb dX7_tellsFast_107 (by decide) ?_
              exact hret 1 _ _ (show ((1 : Int32).toInt = 1 ∧ TellP 1 (f_kinds i.toNatClampNeg) (f_firsts i.toNatClampNeg) (f_seconds i.toNatClampNeg) d) ∨ ((1 : Int32).toInt = 0 ∧ ¬ TellP 1 (f_kinds i.toNatClampNeg) (f_firsts i.toNatClampNeg) (f_seconds i.toNatClampNeg) d) from by (first | have a0 := t_eq eyk | skip); (first | have a1 := t_eq eyl | skip); (first | have a2 := t_eq eyf | skip); (first | have a3 := t_eq eyg | skip); (first | have a4 := t_eq eyh | skip); (first | have a5 := t_eq eys | skip); (first | have a6 := t_eq eyt | skip); (first | have a7 := t_eq em3 | skip); (first | have a8 := t_eq em7 | skip); unfold TellP rmF; omega) rfl dX7_tellsFast_129
            · exact absurd c_35 (by decide)
    · have tc_5 := t_neq c_5
      refine lv_iconst (v := 0) hx hb dX7_tellsFast_45 (by decide) ?_
      exact hret 0 _ _ (show ((0 : Int32).toInt = 1 ∧ TellP 1 (f_kinds i.toNatClampNeg) (f_firsts i.toNatClampNeg) (f_seconds i.toNatClampNeg) d) ∨ ((0 : Int32).toInt = 0 ∧ ¬ TellP 1 (f_kinds i.toNatClampNeg) (f_firsts i.toNatClampNeg) (f_seconds i.toNatClampNeg) d) from by (first | have a0 := t_eq eyk | skip); (first | have a1 := t_eq eyl | skip); (first | have a2 := t_eq eyf | skip); (first | have a3 := t_eq eyg | skip); (first | have a4 := t_eq eyh | skip); (first | have a5 := t_eq eys | skip); (first | have a6 := t_eq eyt | skip); (first | have a7 := t_eq em3 | skip); (first | have a8 := t_eq em7 | skip); unfold TellP rmF; omega) rfl dX7_tellsFast_46
  · have tc_3 := t_eq c_3
    refine lv_aload_n hx hb dX7_tellsFast_16 rfl (lv_at hl 1 rfl) ?_
    refine va_get (D := D) (ci := 7) (v := .ref a_firsts) (C := RX7) (T := TX7) (N := 6) hx hb hts in_r_tellsE_X7 hown hK.1 hP 0 rfl rfl 3 (by decide) lk1 (fun _ h9 => h9) rfl dX7_tellsFast_17 ?_
    refine lv_iload_n hx hb dX7_tellsFast_20 rfl (lv_at hl 2 rfl) ?_
    refine va_iald hx hb hK.1 hP 2 0 rfl rfl (t_in (by omega) (by omega)) dX7_tellsFast_21 ?_
    refine lv_topi (fun yf eyf => ?_)
    refine lv_iload_n hx hb dX7_tellsFast_22 rfl (lv_at hl 3 rfl) ?_
    refine lv_bipush (v := 7) hx hb dX7_tellsFast_23 (by decide) ?_
    refine lv_irem hx hb dX7_tellsFast_25 (by decide) ?_
    refine lv_topi (fun m7 em7 => ?_)
    refine lv_icmp_ne (tgt := 33) hx hb dX7_tellsFast_26 (by decide) (fun c_38 => ?_) (fun c_38 => ?_)
    · have tc_38 := t_neq c_38
      refine lv_iconst (v := 0) hx hb dX7_tellsFast_33 (by decide) ?_
      exact hret 0 _ _ (show ((0 : Int32).toInt = 1 ∧ TellP 1 (f_kinds i.toNatClampNeg) (f_firsts i.toNatClampNeg) (f_seconds i.toNatClampNeg) d) ∨ ((0 : Int32).toInt = 0 ∧ ¬ TellP 1 (f_kinds i.toNatClampNeg) (f_firsts i.toNatClampNeg) (f_seconds i.toNatClampNeg) d) from by (first | have a0 := t_eq eyk | skip); (first | have a1 := t_eq eyl | skip); (first | have a2 := t_eq eyf | skip); (first | have a3 := t_eq eyg | skip); (first | have a4 := t_eq eyh | skip); (first | have a5 := t_eq eys | skip); (first | have a6 := t_eq eyt | skip); (first | have a7 := t_eq em3 | skip); (first | have a8 := t_eq em7 | skip); unfold TellP rmF; omega) rfl dX7_tellsFast_34
    · have tc_38 := t_eq c_38
      refine lv_iconst (v := 1) hx hb dX7_tellsFast_29 (by decide) ?_
      refine lv_goto (tgt := 34) hx hb dX7_tellsFast_30 (by decide) ?_
      exact hret 1 _ _ (show ((1 : Int32).toInt = 1 ∧ TellP 1 (f_kinds i.toNatClampNeg) (f_firsts i.toNatClampNeg) (f_seconds i.toNatClampNeg) d) ∨ ((1 : Int32).toInt = 0 ∧ ¬ TellP 1 (f_kinds i.toNatClampNeg) (f_firsts i.toNatClampNeg) (f_seconds i.toNatClampNeg) d) from by (first | have a0 := t_eq eyk | skip); (first | have a1 := t_eq eyl | skip); (first | have a2 := t_eq eyf | skip); (first | have a3 := t_eq eyg | skip); (first | have a4 := t_eq eyh | skip); (first | have a5 := t_eq eys | skip); (first | have a6 := t_eq eyt | skip); (first | have a7 := t_eq em3 | skip); (first | have a8 := t_eq em7 | skip); unfold TellP rmF; omega) rfl dX7_tellsFast_34

theorem in_r_isFastE_X7 : ∀ w ∈ wsX70, w ∈ wsX7_isFast := tl_X7_isFast_X7
set_option maxHeartbeats 8000000 in
set_option maxRecDepth 100000 in
theorem r_isFastE {l : Launch} {D : va_G} {cI cZ cB : ClassId} {h a_since a_sizes a_kinds a_firsts a_seconds : Nat} {v_size : Int32} {f_since f_sizes f_kinds f_firsts f_seconds : Nat → Int32} {d k : Int32} (hv_size0 : 0 ≤ v_size.toInt) (hv_size1 : v_size.toInt ≤ 10) (hs : InR f_sizes v_size.toInt 0 17) : Met l yX7_isFast wsX7_isFast ({ frames := 1, cells := 0, slots := 0, locals := 25 }) (RO D cI cZ cB [.ref h, .int d, .int k] [(h, .inr (7, [.ref a_since, .ref a_sizes, .ref a_kinds, .ref a_firsts, .ref a_seconds, .int v_size])), (a_since, .inl (cI, 10, .inl f_since)), (a_sizes, .inl (cI, 10, .inl f_sizes)), (a_kinds, .inl (cI, 160, .inl f_kinds)), (a_firsts, .inl (cI, 160, .inl f_firsts)), (a_seconds, .inl (cI, 160, .inl f_seconds))]) (vp_Si (fun r : Int32 => ∃ u_ : Int32, IsPick (okIn f_since d.toInt) keyL v_size.toInt u_ ∧ ((r.toInt = 1 ∧ FasU 1 f_sizes f_kinds f_firsts f_seconds u_ d k) ∨ (r.toInt = 0 ∧ ¬ FasU 1 f_sizes f_kinds f_firsts f_seconds u_ d k)))) 0 0 (fun _ => False) := by
  refine ro_ret (cc := cX7_isFast) (maxL := 5) (ty := .boolean) (own := RX7) (by decide) rfl rfl (Nat.le_of_ble_eq_true rfl) ?_
  intro p e s m args below meth c Q S hret hP hK ls hl
  obtain ⟨hx, hb, hml, hown, hts⟩ := id S
  have hl : lv_has ls 5 [(0, .ref h), (1, .int d), (2, .int k)] := hl
  have kkm1 : (-1 : Int32).toInt = -1 := by decide
  have kk0 : (0 : Int32).toInt = 0 := by decide
  have kk1 : (1 : Int32).toInt = 1 := by decide
  have kk3 : (3 : Int32).toInt = 3 := by decide
  have kk16 : (16 : Int32).toInt = 16 := by decide
  have lk0 := hts (.fieldLink RX7 17 "AbbeyHours$Rules" "sizes" "[I") (List.mem_cons_of_mem _ (List.mem_append_left _ (List.mem_of_getElem? (i := 0) rfl)))
  refine lv_aload_n hx hb dX7_isFast_0 rfl (lv_at hl 0 rfl) ?_
  refine lv_iload_n hx hb dX7_isFast_1 rfl (lv_at hl 1 rfl) ?_
  have hPc := hP.sub (ws' := [(h, .inr (7, [.ref a_since, .ref a_sizes, .ref a_kinds, .ref a_firsts, .ref a_seconds, .int v_size])), (a_since, .inl (cI, 10, .inl f_since))]) [0, 1] rfl
  refine roV (As := [.int d]) (rest := []) S (r_inForceE  (by omega) (by omega)) (cwV 1 hts gX7_isFast_X7_inForce rfl rfl rfl ⟨rfl, hd_X7_inForce⟩ ⟨Nat.le_of_ble_eq_true rfl, Nat.le_of_ble_eq_true rfl⟩) hK hPc (va_recv hK.1 hPc (ci := 7) (q0 := 0) rfl rfl) rfl hl.1 rfl (Nat.le_of_ble_eq_true rfl) dX7_isFast_2 ⟨Nat.le_of_ble_eq_true rfl, Nat.le_of_ble_eq_true rfl⟩ (fun r_ru hw_ru => ?_)
  have hw_ru : IsPick (okIn f_since d.toInt) keyL v_size.toInt r_ru := hw_ru
  have hrg := hw_ru.rg
  refine lv_istore_n (lv' := [(3, .int r_ru), (0, .ref h), (1, .int d), (2, .int k)]) hx hb dX7_isFast_5 rfl hl (by decide) rfl (fun ls hl => ?_)
  refine lv_iload_n hx hb dX7_isFast_6 rfl (lv_at hl 0 rfl) ?_
  refine lv_iconst (v := (-1)) hx hb dX7_isFast_7 (by decide) ?_
  refine lv_icmp_eq (tgt := 16) hx hb dX7_isFast_8 (by decide) (fun c_1 => ?_) (fun c_1 => ?_)
  · have tc_1 := t_eq c_1
    refine lv_iconst (v := 0) hx hb dX7_isFast_16 (by decide) ?_
    exact hret 0 _ _ (show ∃ u_ : Int32, IsPick (okIn f_since d.toInt) keyL v_size.toInt u_ ∧ (((0 : Int32).toInt = 1 ∧ FasU 1 f_sizes f_kinds f_firsts f_seconds u_ d k) ∨ ((0 : Int32).toInt = 0 ∧ ¬ FasU 1 f_sizes f_kinds f_firsts f_seconds u_ d k)) from ⟨r_ru, hw_ru, Or.inr ⟨by omega, fun h => by have h1 := h.1; have h2 := h.2.1; omega⟩⟩) rfl dX7_isFast_17
  · have tc_1 := t_neq c_1
    refine lv_iload_n hx hb dX7_isFast_11 rfl (lv_at hl 3 rfl) ?_
    refine lv_iconst (v := 3) hx hb dX7_isFast_12 (by decide) ?_
    refine lv_icmp_lt (tgt := 18) hx hb dX7_isFast_13 (by decide) (fun c_2 => ?_) (fun c_2 => ?_)
    · have tc_2 := t_lt c_2
      have hqu := hs.get (i := r_ru) (by omega) (by omega)
      refine lv_iload_n hx hb dX7_isFast_18 rfl (lv_at hl 0 rfl) ?_
      refine lv_bipush (v := 16) hx hb dX7_isFast_19 (by decide) ?_
      refine lv_imul hx hb dX7_isFast_21 ?_
      refine lv_topi (fun x_3 ex_3 => ?_)
      first | have tx_3 := t_mulK kk16 ex_3 (by omega) (by omega) | skip
      refine lv_istore (lv' := [(4, .int x_3), (3, .int r_ru), (0, .ref h), (1, .int d), (2, .int k)]) hx hb dX7_isFast_22 hl (by decide) rfl (fun ls hl => ?_)
      have loop24 : ∀ (fuel : Nat) (j : Int32), 176 - j.toInt < (fuel : Int) → (16 * r_ru.toInt ≤ j.toInt) → (j.toInt ≤ 16 * r_ru.toInt + (f_sizes r_ru.toNatClampNeg).toInt) → (∀ q_ : Nat, 16 * r_ru.toInt ≤ (q_ : Int) → (q_ : Int) < j.toInt → ¬ TellP 1 (f_kinds q_) (f_firsts q_) (f_seconds q_) d) → ∀ ls : Array Slot, lv_has ls 5 [(4, .int j), (3, .int r_ru), (0, .ref h), (1, .int d), (2, .int k)] → W p l e ({ frames := 1, cells := 0, slots := 0, locals := 25 } : Room) s m args below meth c s.heap [] 0 0 Q (F0 m 24 ls []) := by
        intro fuel
        induction fuel with
        | zero =>
          intro j hmu hj0 hj1 hno ls hl
          exfalso; omega
        | succ fuel ih24 =>
          intro j hmu hj0 hj1 hno ls hl
          refine lv_iload hx hb dX7_isFast_24 (lv_at hl 0 rfl) ?_
          refine lv_iload_n hx hb dX7_isFast_26 rfl (lv_at hl 1 rfl) ?_
          refine lv_bipush (v := 16) hx hb dX7_isFast_27 (by decide) ?_
          refine lv_imul hx hb dX7_isFast_29 ?_
          refine lv_topi (fun x_4 ex_4 => ?_)
          first | have tx_4 := t_mulK kk16 ex_4 (by omega) (by omega) | skip
          refine lv_aload_n hx hb dX7_isFast_30 rfl (lv_at hl 2 rfl) ?_
          refine va_get (D := D) (ci := 7) (v := .ref a_sizes) (C := RX7) (T := TX7) (N := 6) hx hb hts in_r_isFastE_X7 hown hK.1 hP 0 rfl rfl 1 (by decide) lk0 (fun _ h9 => h9) rfl dX7_isFast_31 ?_
          refine lv_iload_n hx hb dX7_isFast_34 rfl (lv_at hl 1 rfl) ?_
          refine va_iald hx hb hK.1 hP 2 0 rfl rfl (t_in (by omega) (by omega)) dX7_isFast_35 ?_
          refine lv_topi (fun zz ezz => ?_)
          have az := t_eq ezz
          refine lv_iadd hx hb dX7_isFast_36 ?_
          refine lv_topi (fun x_6 ex_6 => ?_)
          first | have tx_6 := t_add ex_6 (by omega) (by omega) | skip
          refine lv_icmp_ge (tgt := 58) hx hb dX7_isFast_37 (by decide) (fun c_7 => ?_) (fun c_7 => ?_)
          · have tc_7 := t_le c_7
            refine lv_iconst (v := 0) hx hb dX7_isFast_58 (by decide) ?_
            exact hret 0 _ _ (show ∃ u_ : Int32, IsPick (okIn f_since d.toInt) keyL v_size.toInt u_ ∧ (((0 : Int32).toInt = 1 ∧ FasU 1 f_sizes f_kinds f_firsts f_seconds u_ d k) ∨ ((0 : Int32).toInt = 0 ∧ ¬ FasU 1 f_sizes f_kinds f_firsts f_seconds u_ d k)) from ⟨r_ru, hw_ru, Or.inr ⟨by omega, fun h => by obtain ⟨q_, h1, h2, h3⟩ := h.2.2; exact hno q_ (by omega) (by omega) h3⟩⟩) rfl dX7_isFast_59
          · have tc_7 := t_nle c_7
            refine lv_aload_n hx hb dX7_isFast_40 rfl (lv_at hl 2 rfl) ?_
            refine lv_iload hx hb dX7_isFast_41 (lv_at hl 0 rfl) ?_
            refine lv_iload_n hx hb dX7_isFast_43 rfl (lv_at hl 3 rfl) ?_
            have hPc := hP.sub (ws' := [(h, .inr (7, [.ref a_since, .ref a_sizes, .ref a_kinds, .ref a_firsts, .ref a_seconds, .int v_size])), (a_kinds, .inl (cI, 160, .inl f_kinds)), (a_firsts, .inl (cI, 160, .inl f_firsts)), (a_seconds, .inl (cI, 160, .inl f_seconds))]) [0, 3, 4, 5] rfl
            refine roV (As := [.int j, .int d]) (rest := []) S (r_tellsE  (by omega) (by omega)) (cwV 2 hts gX7_isFast_X7_tellsFast rfl rfl rfl ⟨rfl, hd_X7_tellsFast⟩ ⟨Nat.le_of_ble_eq_true rfl, Nat.le_of_ble_eq_true rfl⟩) hK hPc (va_recv hK.1 hPc (ci := 7) (q0 := 0) rfl rfl) rfl hl.1 rfl (Nat.le_of_ble_eq_true rfl) dX7_isFast_44 ⟨Nat.le_of_ble_eq_true rfl, Nat.le_of_ble_eq_true rfl⟩ (fun r_te hw_te => ?_)
            have hw_te : (r_te.toInt = 1 ∧ TellP 1 (f_kinds j.toNatClampNeg) (f_firsts j.toNatClampNeg) (f_seconds j.toNatClampNeg) d) ∨ (r_te.toInt = 0 ∧ ¬ TellP 1 (f_kinds j.toNatClampNeg) (f_firsts j.toNatClampNeg) (f_seconds j.toNatClampNeg) d) := hw_te
            have h1_te := if01 hw_te
            refine lv_if_eq (tgt := 52) hx hb dX7_isFast_47 (by decide) (fun c_8 => ?_) (fun c_8 => ?_)
            · have tc_8 := t_eq c_8
              obtain ⟨x_9, ex_9⟩ : ∃ y : Int32, y = j + 1 := ⟨_, rfl⟩
              refine lv_iinc (v := x_9) (lv' := [(4, .int x_9), (3, .int r_ru), (0, .ref h), (1, .int d), (2, .int k)]) hx hb dX7_isFast_52 hl (k := 0) rfl (by rw [ex_9]; rfl) (by decide) rfl (fun ls hl => ?_)
              first | have tx_9 := t_add ex_9 (by omega) (by omega) | skip
              refine lv_goto (tgt := 24) hx hb dX7_isFast_55 (by decide) ?_
              exact ih24 x_9 (by omega) (by omega) (by omega) (fun q_ h1 h2 => by have := t_cl (x := j) (by omega); by_cases z : q_ = j.toNatClampNeg; (rw [z]; exact if0 hw_te (by omega)); exact hno q_ h1 (by omega)) ls (lv_sub hl [0, 1, 2, 3, 4] rfl)
            · have tc_8 := t_neq c_8
              refine lv_iconst (v := 1) hx hb dX7_isFast_50 (by decide) ?_
              exact hret 1 _ _ (show ∃ u_ : Int32, IsPick (okIn f_since d.toInt) keyL v_size.toInt u_ ∧ (((1 : Int32).toInt = 1 ∧ FasU 1 f_sizes f_kinds f_firsts f_seconds u_ d k) ∨ ((1 : Int32).toInt = 0 ∧ ¬ FasU 1 f_sizes f_kinds f_firsts f_seconds u_ d k)) from ⟨r_ru, hw_ru, Or.inl ⟨by omega, by omega, by omega, j.toNatClampNeg, by have := t_cl (x := j) (by omega); omega, by have := t_cl (x := j) (by omega); omega, if1 hw_te (by omega)⟩⟩) rfl dX7_isFast_51
      exact loop24 ((176 - x_3.toInt).toNat + 1) x_3 (by omega) (by omega) (by omega) (fun q_ h1 h2 => by exfalso; omega) ls (lv_sub hl [0, 1, 2, 3, 4] rfl)
    · have tc_2 := t_nlt c_2
      refine lv_iconst (v := 0) hx hb dX7_isFast_16 (by decide) ?_
      exact hret 0 _ _ (show ∃ u_ : Int32, IsPick (okIn f_since d.toInt) keyL v_size.toInt u_ ∧ (((0 : Int32).toInt = 1 ∧ FasU 1 f_sizes f_kinds f_firsts f_seconds u_ d k) ∨ ((0 : Int32).toInt = 0 ∧ ¬ FasU 1 f_sizes f_kinds f_firsts f_seconds u_ d k)) from ⟨r_ru, hw_ru, Or.inr ⟨by omega, fun h => by have h1 := h.1; have h2 := h.2.1; omega⟩⟩) rfl dX7_isFast_17

theorem in_r_lastE_X7 : ∀ w ∈ wsX70, w ∈ wsX7_lastTold := tl_X7_lastTold_X7
set_option maxHeartbeats 8000000 in
set_option maxRecDepth 100000 in
theorem r_lastE {l : Launch} {D : va_G} {cI cZ cB : ClassId} {h a_since a_sizes a_kinds a_firsts a_seconds : Nat} {v_size : Int32} {f_since f_sizes f_kinds f_firsts f_seconds : Nat → Int32} {d k i : Int32} (hv_size0 : 0 ≤ v_size.toInt) (hv_size1 : v_size.toInt ≤ 10) (hs : InR f_sizes v_size.toInt 0 17) : Met l yX7_lastTold wsX7_lastTold ({ frames := 1, cells := 0, slots := 0, locals := 22 }) (RO D cI cZ cB [.ref h, .int d, .int k, .int i] [(h, .inr (7, [.ref a_since, .ref a_sizes, .ref a_kinds, .ref a_firsts, .ref a_seconds, .int v_size])), (a_since, .inl (cI, 10, .inl f_since)), (a_sizes, .inl (cI, 10, .inl f_sizes)), (a_kinds, .inl (cI, 160, .inl f_kinds)), (a_firsts, .inl (cI, 160, .inl f_firsts)), (a_seconds, .inl (cI, 160, .inl f_seconds))]) (vp_Si (fun r : Int32 => ∃ u_ : Int32, IsPick (okIn f_since d.toInt) keyL v_size.toInt u_ ∧ LasU (CC f_kinds f_firsts k i) f_seconds f_sizes u_ r)) 0 0 (fun _ => False) := by
  refine ro_ret (cc := cX7_lastTold) (maxL := 6) (ty := .int) (own := RX7) (by decide) rfl rfl (Nat.le_of_ble_eq_true rfl) ?_
  intro p e s m args below meth c Q S hret hP hK ls hl
  obtain ⟨hx, hb, hml, hown, hts⟩ := id S
  have hl : lv_has ls 6 [(0, .ref h), (1, .int d), (2, .int k), (3, .int i)] := hl
  have kkm1 : (-1 : Int32).toInt = -1 := by decide
  have kk0 : (0 : Int32).toInt = 0 := by decide
  have kk1 : (1 : Int32).toInt = 1 := by decide
  have kk16 : (16 : Int32).toInt = 16 := by decide
  have lk0 := hts (.fieldLink RX7 17 "AbbeyHours$Rules" "sizes" "[I") (List.mem_cons_of_mem _ (List.mem_append_left _ (List.mem_of_getElem? (i := 0) rfl)))
  have lk1 := hts (.fieldLink RX7 20 "AbbeyHours$Rules" "kinds" "[I") (List.mem_cons_of_mem _ (List.mem_append_left _ (List.mem_of_getElem? (i := 1) rfl)))
  have lk2 := hts (.fieldLink RX7 23 "AbbeyHours$Rules" "firsts" "[I") (List.mem_cons_of_mem _ (List.mem_append_left _ (List.mem_of_getElem? (i := 2) rfl)))
  have lk3 := hts (.fieldLink RX7 26 "AbbeyHours$Rules" "seconds" "[I") (List.mem_cons_of_mem _ (List.mem_append_left _ (List.mem_of_getElem? (i := 3) rfl)))
  refine lv_aload_n hx hb dX7_lastTold_0 rfl (lv_at hl 0 rfl) ?_
  refine lv_iload_n hx hb dX7_lastTold_1 rfl (lv_at hl 1 rfl) ?_
  have hPc := hP.sub (ws' := [(h, .inr (7, [.ref a_since, .ref a_sizes, .ref a_kinds, .ref a_firsts, .ref a_seconds, .int v_size])), (a_since, .inl (cI, 10, .inl f_since))]) [0, 1] rfl
  refine roV (As := [.int d]) (rest := []) S (r_inForceE  (by omega) (by omega)) (cwV 1 hts gX7_lastTold_X7_inForce rfl rfl rfl ⟨rfl, hd_X7_inForce⟩ ⟨Nat.le_of_ble_eq_true rfl, Nat.le_of_ble_eq_true rfl⟩) hK hPc (va_recv hK.1 hPc (ci := 7) (q0 := 0) rfl rfl) rfl hl.1 rfl (Nat.le_of_ble_eq_true rfl) dX7_lastTold_2 ⟨Nat.le_of_ble_eq_true rfl, Nat.le_of_ble_eq_true rfl⟩ (fun r_ru hw_ru => ?_)
  have hw_ru : IsPick (okIn f_since d.toInt) keyL v_size.toInt r_ru := hw_ru
  have hrg := hw_ru.rg
  refine lv_istore (lv' := [(4, .int r_ru), (0, .ref h), (1, .int d), (2, .int k), (3, .int i)]) hx hb dX7_lastTold_5 hl (by decide) rfl (fun ls hl => ?_)
  refine lv_iload hx hb dX7_lastTold_7 (lv_at hl 0 rfl) ?_
  refine lv_iconst (v := (-1)) hx hb dX7_lastTold_9 (by decide) ?_
  refine lv_icmp_ne (tgt := 15) hx hb dX7_lastTold_10 (by decide) (fun c_1 => ?_) (fun c_1 => ?_)
  · have tc_1 := t_neq c_1
    have hqu := hs.get (i := r_ru) (by omega) (by omega)
    refine lv_iload hx hb dX7_lastTold_15 (lv_at hl 0 rfl) ?_
    refine lv_bipush (v := 16) hx hb dX7_lastTold_17 (by decide) ?_
    refine lv_imul hx hb dX7_lastTold_19 ?_
    refine lv_topi (fun x_2 ex_2 => ?_)
    first | have tx_2 := t_mulK kk16 ex_2 (by omega) (by omega) | skip
    refine lv_aload_n hx hb dX7_lastTold_20 rfl (lv_at hl 1 rfl) ?_
    refine va_get (D := D) (ci := 7) (v := .ref a_sizes) (C := RX7) (T := TX7) (N := 6) hx hb hts in_r_lastE_X7 hown hK.1 hP 0 rfl rfl 1 (by decide) lk0 (fun _ h9 => h9) rfl dX7_lastTold_21 ?_
    refine lv_iload hx hb dX7_lastTold_24 (lv_at hl 0 rfl) ?_
    refine va_iald hx hb hK.1 hP 2 0 rfl rfl (t_in (by omega) (by omega)) dX7_lastTold_26 ?_
    refine lv_topi (fun zz ezz => ?_)
    have az := t_eq ezz
    refine lv_iadd hx hb dX7_lastTold_27 ?_
    refine lv_topi (fun x_4 ex_4 => ?_)
    first | have tx_4 := t_add ex_4 (by omega) (by omega) | skip
    refine lv_iconst (v := 1) hx hb dX7_lastTold_28 (by decide) ?_
    refine lv_isub hx hb dX7_lastTold_29 ?_
    refine lv_topi (fun x_5 ex_5 => ?_)
    first | have tx_5 := t_sub ex_5 (by omega) (by omega) | skip
    refine lv_istore (lv' := [(5, .int x_5), (4, .int r_ru), (0, .ref h), (1, .int d), (2, .int k), (3, .int i)]) hx hb dX7_lastTold_30 hl (by decide) rfl (fun ls hl => ?_)
    have loop32 : ∀ (fuel : Nat) (j : Int32), j.toInt + 2 < (fuel : Int) → (16 * r_ru.toInt - 1 ≤ j.toInt) → (j.toInt < 16 * r_ru.toInt + (f_sizes r_ru.toNatClampNeg).toInt) → (∀ q_ : Nat, j.toInt < (q_ : Int) → (q_ : Int) < 16 * r_ru.toInt + (f_sizes r_ru.toNatClampNeg).toInt → ¬ CC f_kinds f_firsts k i q_) → ∀ ls : Array Slot, lv_has ls 6 [(5, .int j), (4, .int r_ru), (0, .ref h), (1, .int d), (2, .int k), (3, .int i)] → W p l e ({ frames := 1, cells := 0, slots := 0, locals := 22 } : Room) s m args below meth c s.heap [] 0 0 Q (F0 m 32 ls []) := by
      intro fuel
      induction fuel with
      | zero =>
        intro j hmu hj0 hj1 hno ls hl
        exfalso; omega
      | succ fuel ih32 =>
        intro j hmu hj0 hj1 hno ls hl
        refine lv_iload hx hb dX7_lastTold_32 (lv_at hl 0 rfl) ?_
        refine lv_iload hx hb dX7_lastTold_34 (lv_at hl 1 rfl) ?_
        refine lv_bipush (v := 16) hx hb dX7_lastTold_36 (by decide) ?_
        refine lv_imul hx hb dX7_lastTold_38 ?_
        refine lv_topi (fun x_6 ex_6 => ?_)
        first | have tx_6 := t_mulK kk16 ex_6 (by omega) (by omega) | skip
        refine lv_icmp_lt (tgt := 78) hx hb dX7_lastTold_39 (by decide) (fun c_7 => ?_) (fun c_7 => ?_)
        · have tc_7 := t_lt c_7
          refine lv_iconst (v := (-1)) hx hb dX7_lastTold_78 (by decide) ?_
          exact hret (-1) _ _ (show ∃ u_ : Int32, IsPick (okIn f_since d.toInt) keyL v_size.toInt u_ ∧ LasU (CC f_kinds f_firsts k i) f_seconds f_sizes u_ (-1 : Int32) from ⟨r_ru, hw_ru, Or.inr ⟨by omega, Or.inl ⟨by omega, fun q_ h1 h2 => hno q_ (by omega) (by omega)⟩⟩⟩) rfl dX7_lastTold_79
        · have tc_7 := t_nlt c_7
          refine lv_aload_n hx hb dX7_lastTold_42 rfl (lv_at hl 2 rfl) ?_
          refine va_get (D := D) (ci := 7) (v := .ref a_kinds) (C := RX7) (T := TX7) (N := 6) hx hb hts in_r_lastE_X7 hown hK.1 hP 0 rfl rfl 2 (by decide) lk1 (fun _ h9 => h9) rfl dX7_lastTold_43 ?_
          refine lv_iload hx hb dX7_lastTold_46 (lv_at hl 0 rfl) ?_
          refine va_iald hx hb hK.1 hP 3 0 rfl rfl (t_in (by omega) (by omega)) dX7_lastTold_48 ?_
          refine lv_topi (fun yk eyk => ?_)
          refine lv_iload_n hx hb dX7_lastTold_49 rfl (lv_at hl 4 rfl) ?_
          refine lv_icmp_ne (tgt := 72) hx hb dX7_lastTold_50 (by decide) (fun ck => ?_) (fun ck => ?_)
          · have tck := t_neq ck
            obtain ⟨x_10, ex_10⟩ : ∃ y : Int32, y = j + (-1) := ⟨_, rfl⟩
            refine lv_iinc (v := x_10) (lv' := [(5, .int x_10), (4, .int r_ru), (0, .ref h), (1, .int d), (2, .int k), (3, .int i)]) hx hb dX7_lastTold_72 hl (k := 0) rfl (by rw [ex_10]; rfl) (by decide) rfl (fun ls hl => ?_)
            first | have tx_10 := t_add ex_10 (by omega) (by omega) | skip
            refine lv_goto (tgt := 32) hx hb dX7_lastTold_75 (by decide) ?_
            exact ih32 x_10 (by omega) (by omega) (by omega) (fun q_ h1 h2 => by have := t_cl (x := j) (by omega); by_cases z : q_ = j.toNatClampNeg; (rw [z]; intro hc_; have hc1 := hc_.1; have hc2 := hc_.2; first | (rw [← eyk] at hc1; exact ck hc1) | (rw [← eyf] at hc2; exact cf hc2)); exact hno q_ (by omega) h2) ls (lv_sub hl [0, 1, 2, 3, 4, 5] rfl)
          · have tck := t_eq ck
            refine lv_aload_n hx hb dX7_lastTold_53 rfl (lv_at hl 2 rfl) ?_
            refine va_get (D := D) (ci := 7) (v := .ref a_firsts) (C := RX7) (T := TX7) (N := 6) hx hb hts in_r_lastE_X7 hown hK.1 hP 0 rfl rfl 3 (by decide) lk2 (fun _ h9 => h9) rfl dX7_lastTold_54 ?_
            refine lv_iload hx hb dX7_lastTold_57 (lv_at hl 0 rfl) ?_
            refine va_iald hx hb hK.1 hP 4 0 rfl rfl (t_in (by omega) (by omega)) dX7_lastTold_59 ?_
            refine lv_topi (fun yf eyf => ?_)
            refine lv_iload_n hx hb dX7_lastTold_60 rfl (lv_at hl 5 rfl) ?_
            refine lv_icmp_ne (tgt := 72) hx hb dX7_lastTold_61 (by decide) (fun cf => ?_) (fun cf => ?_)
            · have tcf := t_neq cf
              obtain ⟨x_13, ex_13⟩ : ∃ y : Int32, y = j + (-1) := ⟨_, rfl⟩
              refine lv_iinc (v := x_13) (lv' := [(5, .int x_13), (4, .int r_ru), (0, .ref h), (1, .int d), (2, .int k), (3, .int i)]) hx hb dX7_lastTold_72 hl (k := 0) rfl (by rw [ex_13]; rfl) (by decide) rfl (fun ls hl => ?_)
              first | have tx_13 := t_add ex_13 (by omega) (by omega) | skip
              refine lv_goto (tgt := 32) hx hb dX7_lastTold_75 (by decide) ?_
              exact ih32 x_13 (by omega) (by omega) (by omega) (fun q_ h1 h2 => by have := t_cl (x := j) (by omega); by_cases z : q_ = j.toNatClampNeg; (rw [z]; intro hc_; have hc1 := hc_.1; have hc2 := hc_.2; first | (rw [← eyk] at hc1; exact ck hc1) | (rw [← eyf] at hc2; exact cf hc2)); exact hno q_ (by omega) h2) ls (lv_sub hl [0, 1, 2, 3, 4, 5] rfl)
            · have tcf := t_eq cf
              refine lv_aload_n hx hb dX7_lastTold_64 rfl (lv_at hl 2 rfl) ?_
              refine va_get (D := D) (ci := 7) (v := .ref a_seconds) (C := RX7) (T := TX7) (N := 6) hx hb hts in_r_lastE_X7 hown hK.1 hP 0 rfl rfl 4 (by decide) lk3 (fun _ h9 => h9) rfl dX7_lastTold_65 ?_
              refine lv_iload hx hb dX7_lastTold_68 (lv_at hl 0 rfl) ?_
              refine va_iald hx hb hK.1 hP 5 0 rfl rfl (t_in (by omega) (by omega)) dX7_lastTold_70 ?_
              refine lv_topi (fun ys eys => ?_)
              exact hret ys _ _ (show ∃ u_ : Int32, IsPick (okIn f_since d.toInt) keyL v_size.toInt u_ ∧ LasU (CC f_kinds f_firsts k i) f_seconds f_sizes u_ ys from ⟨r_ru, hw_ru, Or.inr ⟨by omega, Or.inr ⟨j.toNatClampNeg, by have := t_cl (x := j) (by omega); omega, by have := t_cl (x := j) (by omega); omega, ⟨by rw [← eyk]; exact ck, by rw [← eyf]; exact cf⟩, fun z_ h1 h2 => hno z_ (by have := t_cl (x := j) (by omega); omega) (by omega), eys⟩⟩⟩) rfl dX7_lastTold_71
    exact loop32 ((x_5.toInt + 2).toNat + 1) x_5 (by omega) (by omega) (by omega) (fun q_ h1 h2 => by exfalso; omega) ls (lv_sub hl [0, 1, 2, 3, 4, 5] rfl)
  · have tc_1 := t_eq c_1
    refine lv_iconst (v := (-1)) hx hb dX7_lastTold_13 (by decide) ?_
    exact hret (-1) _ _ (show ∃ u_ : Int32, IsPick (okIn f_since d.toInt) keyL v_size.toInt u_ ∧ LasU (CC f_kinds f_firsts k i) f_seconds f_sizes u_ (-1 : Int32) from ⟨r_ru, hw_ru, Or.inl ⟨by omega, by omega⟩⟩) rfl dX7_lastTold_14

set_option maxHeartbeats 8000000 in
set_option maxRecDepth 100000 in
theorem r_headE {l : Launch} {D : va_G} {cI cZ cB : ClassId} {h a_since a_sizes a_kinds a_firsts a_seconds : Nat} {v_size : Int32} {f_since f_sizes f_kinds f_firsts f_seconds : Nat → Int32} {d k : Int32} (hv_size0 : 0 ≤ v_size.toInt) (hv_size1 : v_size.toInt ≤ 10) (hs : InR f_sizes v_size.toInt 0 17) : Met l yX7_shareOfHead wsX7_shareOfHead ({ frames := 2, cells := 0, slots := 0, locals := 49 }) (RO D cI cZ cB [.ref h, .int d, .int k] [(h, .inr (7, [.ref a_since, .ref a_sizes, .ref a_kinds, .ref a_firsts, .ref a_seconds, .int v_size])), (a_since, .inl (cI, 10, .inl f_since)), (a_sizes, .inl (cI, 10, .inl f_sizes)), (a_kinds, .inl (cI, 160, .inl f_kinds)), (a_firsts, .inl (cI, 160, .inl f_firsts)), (a_seconds, .inl (cI, 160, .inl f_seconds))]) (vp_Si (fun r : Int32 => ∃ u_ : Int32, IsPick (okIn f_since d.toInt) keyL v_size.toInt u_ ∧ HedU (FasU 1 f_sizes f_kinds f_firsts f_seconds u_ d k) (CC f_kinds f_firsts 3 0) (CC f_kinds f_firsts 4 k) (CC f_kinds f_firsts 6 0) f_seconds f_sizes u_ k r)) 0 0 (fun _ => False) := by
  refine ro_ret (cc := cX7_shareOfHead) (maxL := 4) (ty := .int) (own := RX7) (by decide) rfl rfl (Nat.le_of_ble_eq_true rfl) ?_
  intro p e s m args below meth c Q S hret hP hK ls hl
  obtain ⟨hx, hb, hml, hown, hts⟩ := id S
  have hl : lv_has ls 4 [(0, .ref h), (1, .int d), (2, .int k)] := hl
  have kkm1 : (-1 : Int32).toInt = -1 := by decide
  have kk0 : (0 : Int32).toInt = 0 := by decide
  have kk2 : (2 : Int32).toInt = 2 := by decide
  have kk3 : (3 : Int32).toInt = 3 := by decide
  have kk4 : (4 : Int32).toInt = 4 := by decide
  have kk6 : (6 : Int32).toInt = 6 := by decide
  refine lv_iconst (v := (-1)) hx hb dX7_shareOfHead_0 (by decide) ?_
  refine lv_istore_n (lv' := [(3, .int (-1)), (0, .ref h), (1, .int d), (2, .int k)]) hx hb dX7_shareOfHead_1 rfl hl (by decide) rfl (fun ls hl => ?_)
  refine lv_aload_n hx hb dX7_shareOfHead_2 rfl (lv_at hl 1 rfl) ?_
  refine lv_iload_n hx hb dX7_shareOfHead_3 rfl (lv_at hl 2 rfl) ?_
  refine lv_iload_n hx hb dX7_shareOfHead_4 rfl (lv_at hl 3 rfl) ?_
  have hPc := hP.sub (ws' := [(h, .inr (7, [.ref a_since, .ref a_sizes, .ref a_kinds, .ref a_firsts, .ref a_seconds, .int v_size])), (a_since, .inl (cI, 10, .inl f_since)), (a_sizes, .inl (cI, 10, .inl f_sizes)), (a_kinds, .inl (cI, 160, .inl f_kinds)), (a_firsts, .inl (cI, 160, .inl f_firsts)), (a_seconds, .inl (cI, 160, .inl f_seconds))]) [0, 1, 2, 3, 4, 5] rfl
  refine roV (As := [.int d, .int k]) (rest := []) S (r_isFastE  (by omega) (by omega) (hs)) (cwV 2 hts gX7_shareOfHead_X7_isFast rfl rfl rfl ⟨rfl, hd_X7_isFast⟩ ⟨Nat.le_of_ble_eq_true rfl, Nat.le_of_ble_eq_true rfl⟩) hK hPc (va_recv hK.1 hPc (ci := 7) (q0 := 0) rfl rfl) rfl hl.1 rfl (Nat.le_of_ble_eq_true rfl) dX7_shareOfHead_5 ⟨Nat.le_of_ble_eq_true rfl, Nat.le_of_ble_eq_true rfl⟩ (fun r_fs hw_fs => ?_)
  have hw_fs : ∃ u_ : Int32, IsPick (okIn f_since d.toInt) keyL v_size.toInt u_ ∧ ((r_fs.toInt = 1 ∧ FasU 1 f_sizes f_kinds f_firsts f_seconds u_ d k) ∨ (r_fs.toInt = 0 ∧ ¬ FasU 1 f_sizes f_kinds f_firsts f_seconds u_ d k)) := hw_fs
  obtain ⟨u_, hu, hfs⟩ := hw_fs
  have h1_fs := if01 hfs
  refine lv_if_eq (tgt := 19) hx hb dX7_shareOfHead_8 (by decide) (fun c_1 => ?_) (fun c_1 => ?_)
  · have tc_1 := t_eq c_1
    refine lv_iload_n hx hb dX7_shareOfHead_19 rfl (lv_at hl 0 rfl) ?_
    refine lv_iconst (v := (-1)) hx hb dX7_shareOfHead_20 (by decide) ?_
    refine lv_icmp_ne (tgt := 36) hx hb dX7_shareOfHead_21 (by decide) (fun c_2 => ?_) (fun c_2 => ?_)
    · exact absurd c_2 (by decide)
    · have tc_2 := t_eq c_2
      refine lv_iload_n hx hb dX7_shareOfHead_24 rfl (lv_at hl 3 rfl) ?_
      refine lv_if_le (tgt := 36) hx hb dX7_shareOfHead_25 (by decide) (fun c_3 => ?_) (fun c_3 => ?_)
      · have tc_3 := t_le c_3
        refine lv_iload_n hx hb dX7_shareOfHead_36 rfl (lv_at hl 0 rfl) ?_
        refine lv_iconst (v := (-1)) hx hb dX7_shareOfHead_37 (by decide) ?_
        refine lv_icmp_ne (tgt := 50) hx hb dX7_shareOfHead_38 (by decide) (fun c_4 => ?_) (fun c_4 => ?_)
        · exact absurd c_4 (by decide)
        · have tc_4 := t_eq c_4
          refine lv_aload_n hx hb dX7_shareOfHead_41 rfl (lv_at hl 1 rfl) ?_
          refine lv_iload_n hx hb dX7_shareOfHead_42 rfl (lv_at hl 2 rfl) ?_
          refine lv_bipush (v := 6) hx hb dX7_shareOfHead_43 (by decide) ?_
          refine lv_iconst (v := 0) hx hb dX7_shareOfHead_45 (by decide) ?_
          have hPc := hP.sub (ws' := [(h, .inr (7, [.ref a_since, .ref a_sizes, .ref a_kinds, .ref a_firsts, .ref a_seconds, .int v_size])), (a_since, .inl (cI, 10, .inl f_since)), (a_sizes, .inl (cI, 10, .inl f_sizes)), (a_kinds, .inl (cI, 160, .inl f_kinds)), (a_firsts, .inl (cI, 160, .inl f_firsts)), (a_seconds, .inl (cI, 160, .inl f_seconds))]) [0, 1, 2, 3, 4, 5] rfl
          refine roV (As := [.int d, .int 6, .int 0]) (rest := []) S (r_lastE  (by omega) (by omega) (hs)) (cwV 3 hts gX7_shareOfHead_X7_lastTold rfl rfl rfl ⟨rfl, hd_X7_lastTold⟩ ⟨Nat.le_of_ble_eq_true rfl, Nat.le_of_ble_eq_true rfl⟩) hK hPc (va_recv hK.1 hPc (ci := 7) (q0 := 0) rfl rfl) rfl hl.1 rfl (Nat.le_of_ble_eq_true rfl) dX7_shareOfHead_46 ⟨Nat.le_of_ble_eq_true rfl, Nat.le_of_ble_eq_true rfl⟩ (fun r_t3 hw_t3 => ?_)
          have hw_t3 : ∃ u_ : Int32, IsPick (okIn f_since d.toInt) keyL v_size.toInt u_ ∧ LasU (CC f_kinds f_firsts (6 : Int32) (0 : Int32)) f_seconds f_sizes u_ r_t3 := hw_t3
          obtain ⟨x_t3, hx_t3, ht3⟩ := hw_t3
          have es_t3 := hu.same hx_t3
          subst es_t3
          refine lv_istore_n (lv' := [(3, .int r_t3), (0, .ref h), (1, .int d), (2, .int k)]) hx hb dX7_shareOfHead_49 rfl hl (by decide) rfl (fun ls hl => ?_)
          refine lv_iload_n hx hb dX7_shareOfHead_50 rfl (lv_at hl 0 rfl) ?_
          refine lv_iconst (v := (-1)) hx hb dX7_shareOfHead_51 (by decide) ?_
          refine lv_icmp_ne (tgt := 59) hx hb dX7_shareOfHead_52 (by decide) (fun c_5 => ?_) (fun c_5 => ?_)
          · have tc_5 := t_neq c_5
            refine lv_iload_n hx hb dX7_shareOfHead_59 rfl (lv_at hl 0 rfl) ?_
            exact hret r_t3 _ _ (show ∃ u_ : Int32, IsPick (okIn f_since d.toInt) keyL v_size.toInt u_ ∧ HedU (FasU 1 f_sizes f_kinds f_firsts f_seconds u_ d k) (CC f_kinds f_firsts 3 0) (CC f_kinds f_firsts 4 k) (CC f_kinds f_firsts 6 0) f_seconds f_sizes u_ k r_t3 from by first | exact ⟨u_, hu, (-1), (-1), (-1), Or.inr ⟨if0 hfs (by omega), by omega⟩, Or.inr ⟨by omega, rfl⟩, Or.inr ⟨by omega, rfl⟩, by first | exact Or.inl ⟨by omega, by omega⟩ | exact Or.inr ⟨by omega, rfl⟩⟩ | exact ⟨u_, hu, (-1), (-1), r_t3, Or.inr ⟨if0 hfs (by omega), by omega⟩, Or.inr ⟨by omega, rfl⟩, Or.inl ⟨by omega, ht3⟩, by first | exact Or.inl ⟨by omega, by omega⟩ | exact Or.inr ⟨by omega, rfl⟩⟩ | exact ⟨u_, hu, (-1), r_t2, r_t2, Or.inr ⟨if0 hfs (by omega), by omega⟩, Or.inl ⟨⟨by omega, by omega⟩, ht2⟩, Or.inr ⟨by omega, rfl⟩, by first | exact Or.inl ⟨by omega, by omega⟩ | exact Or.inr ⟨by omega, rfl⟩⟩ | exact ⟨u_, hu, (-1), r_t2, r_t3, Or.inr ⟨if0 hfs (by omega), by omega⟩, Or.inl ⟨⟨by omega, by omega⟩, ht2⟩, Or.inl ⟨by omega, ht3⟩, by first | exact Or.inl ⟨by omega, by omega⟩ | exact Or.inr ⟨by omega, rfl⟩⟩ | exact ⟨u_, hu, r_t1, r_t1, r_t1, Or.inl ⟨if1 hfs (by omega), ht1⟩, Or.inr ⟨by omega, rfl⟩, Or.inr ⟨by omega, rfl⟩, by first | exact Or.inl ⟨by omega, by omega⟩ | exact Or.inr ⟨by omega, rfl⟩⟩ | exact ⟨u_, hu, r_t1, r_t1, r_t3, Or.inl ⟨if1 hfs (by omega), ht1⟩, Or.inr ⟨by omega, rfl⟩, Or.inl ⟨by omega, ht3⟩, by first | exact Or.inl ⟨by omega, by omega⟩ | exact Or.inr ⟨by omega, rfl⟩⟩ | exact ⟨u_, hu, r_t1, r_t2, r_t2, Or.inl ⟨if1 hfs (by omega), ht1⟩, Or.inl ⟨⟨by omega, by omega⟩, ht2⟩, Or.inr ⟨by omega, rfl⟩, by first | exact Or.inl ⟨by omega, by omega⟩ | exact Or.inr ⟨by omega, rfl⟩⟩ | exact ⟨u_, hu, r_t1, r_t2, r_t3, Or.inl ⟨if1 hfs (by omega), ht1⟩, Or.inl ⟨⟨by omega, by omega⟩, ht2⟩, Or.inl ⟨by omega, ht3⟩, by first | exact Or.inl ⟨by omega, by omega⟩ | exact Or.inr ⟨by omega, rfl⟩⟩) rfl dX7_shareOfHead_60
          · have tc_5 := t_eq c_5
            refine lv_iconst (v := 2) hx hb dX7_shareOfHead_55 (by decide) ?_
            refine lv_goto (tgt := 60) hx hb dX7_shareOfHead_56 (by decide) ?_
            exact hret 2 _ _ (show ∃ u_ : Int32, IsPick (okIn f_since d.toInt) keyL v_size.toInt u_ ∧ HedU (FasU 1 f_sizes f_kinds f_firsts f_seconds u_ d k) (CC f_kinds f_firsts 3 0) (CC f_kinds f_firsts 4 k) (CC f_kinds f_firsts 6 0) f_seconds f_sizes u_ k (2 : Int32) from by first | exact ⟨u_, hu, (-1), (-1), (-1), Or.inr ⟨if0 hfs (by omega), by omega⟩, Or.inr ⟨by omega, rfl⟩, Or.inr ⟨by omega, rfl⟩, by first | exact Or.inl ⟨by omega, by omega⟩ | exact Or.inr ⟨by omega, rfl⟩⟩ | exact ⟨u_, hu, (-1), (-1), r_t3, Or.inr ⟨if0 hfs (by omega), by omega⟩, Or.inr ⟨by omega, rfl⟩, Or.inl ⟨by omega, ht3⟩, by first | exact Or.inl ⟨by omega, by omega⟩ | exact Or.inr ⟨by omega, rfl⟩⟩ | exact ⟨u_, hu, (-1), r_t2, r_t2, Or.inr ⟨if0 hfs (by omega), by omega⟩, Or.inl ⟨⟨by omega, by omega⟩, ht2⟩, Or.inr ⟨by omega, rfl⟩, by first | exact Or.inl ⟨by omega, by omega⟩ | exact Or.inr ⟨by omega, rfl⟩⟩ | exact ⟨u_, hu, (-1), r_t2, r_t3, Or.inr ⟨if0 hfs (by omega), by omega⟩, Or.inl ⟨⟨by omega, by omega⟩, ht2⟩, Or.inl ⟨by omega, ht3⟩, by first | exact Or.inl ⟨by omega, by omega⟩ | exact Or.inr ⟨by omega, rfl⟩⟩ | exact ⟨u_, hu, r_t1, r_t1, r_t1, Or.inl ⟨if1 hfs (by omega), ht1⟩, Or.inr ⟨by omega, rfl⟩, Or.inr ⟨by omega, rfl⟩, by first | exact Or.inl ⟨by omega, by omega⟩ | exact Or.inr ⟨by omega, rfl⟩⟩ | exact ⟨u_, hu, r_t1, r_t1, r_t3, Or.inl ⟨if1 hfs (by omega), ht1⟩, Or.inr ⟨by omega, rfl⟩, Or.inl ⟨by omega, ht3⟩, by first | exact Or.inl ⟨by omega, by omega⟩ | exact Or.inr ⟨by omega, rfl⟩⟩ | exact ⟨u_, hu, r_t1, r_t2, r_t2, Or.inl ⟨if1 hfs (by omega), ht1⟩, Or.inl ⟨⟨by omega, by omega⟩, ht2⟩, Or.inr ⟨by omega, rfl⟩, by first | exact Or.inl ⟨by omega, by omega⟩ | exact Or.inr ⟨by omega, rfl⟩⟩ | exact ⟨u_, hu, r_t1, r_t2, r_t3, Or.inl ⟨if1 hfs (by omega), ht1⟩, Or.inl ⟨⟨by omega, by omega⟩, ht2⟩, Or.inl ⟨by omega, ht3⟩, by first | exact Or.inl ⟨by omega, by omega⟩ | exact Or.inr ⟨by omega, rfl⟩⟩) rfl dX7_shareOfHead_60
      · have tc_3 := t_nle c_3
        refine lv_aload_n hx hb dX7_shareOfHead_28 rfl (lv_at hl 1 rfl) ?_
        refine lv_iload_n hx hb dX7_shareOfHead_29 rfl (lv_at hl 2 rfl) ?_
        refine lv_iconst (v := 4) hx hb dX7_shareOfHead_30 (by decide) ?_
        refine lv_iload_n hx hb dX7_shareOfHead_31 rfl (lv_at hl 3 rfl) ?_
        have hPc := hP.sub (ws' := [(h, .inr (7, [.ref a_since, .ref a_sizes, .ref a_kinds, .ref a_firsts, .ref a_seconds, .int v_size])), (a_since, .inl (cI, 10, .inl f_since)), (a_sizes, .inl (cI, 10, .inl f_sizes)), (a_kinds, .inl (cI, 160, .inl f_kinds)), (a_firsts, .inl (cI, 160, .inl f_firsts)), (a_seconds, .inl (cI, 160, .inl f_seconds))]) [0, 1, 2, 3, 4, 5] rfl
        refine roV (As := [.int d, .int 4, .int k]) (rest := []) S (r_lastE  (by omega) (by omega) (hs)) (cwV 3 hts gX7_shareOfHead_X7_lastTold rfl rfl rfl ⟨rfl, hd_X7_lastTold⟩ ⟨Nat.le_of_ble_eq_true rfl, Nat.le_of_ble_eq_true rfl⟩) hK hPc (va_recv hK.1 hPc (ci := 7) (q0 := 0) rfl rfl) rfl hl.1 rfl (Nat.le_of_ble_eq_true rfl) dX7_shareOfHead_32 ⟨Nat.le_of_ble_eq_true rfl, Nat.le_of_ble_eq_true rfl⟩ (fun r_t2 hw_t2 => ?_)
        have hw_t2 : ∃ u_ : Int32, IsPick (okIn f_since d.toInt) keyL v_size.toInt u_ ∧ LasU (CC f_kinds f_firsts (4 : Int32) k) f_seconds f_sizes u_ r_t2 := hw_t2
        obtain ⟨x_t2, hx_t2, ht2⟩ := hw_t2
        have es_t2 := hu.same hx_t2
        subst es_t2
        refine lv_istore_n (lv' := [(3, .int r_t2), (0, .ref h), (1, .int d), (2, .int k)]) hx hb dX7_shareOfHead_35 rfl hl (by decide) rfl (fun ls hl => ?_)
        refine lv_iload_n hx hb dX7_shareOfHead_36 rfl (lv_at hl 0 rfl) ?_
        refine lv_iconst (v := (-1)) hx hb dX7_shareOfHead_37 (by decide) ?_
        refine lv_icmp_ne (tgt := 50) hx hb dX7_shareOfHead_38 (by decide) (fun c_6 => ?_) (fun c_6 => ?_)
        · have tc_6 := t_neq c_6
          refine lv_iload_n hx hb dX7_shareOfHead_50 rfl (lv_at hl 0 rfl) ?_
          refine lv_iconst (v := (-1)) hx hb dX7_shareOfHead_51 (by decide) ?_
          refine lv_icmp_ne (tgt := 59) hx hb dX7_shareOfHead_52 (by decide) (fun c_7 => ?_) (fun c_7 => ?_)
          · have tc_7 := t_neq c_7
            refine lv_iload_n hx hb dX7_shareOfHead_59 rfl (lv_at hl 0 rfl) ?_
            exact hret r_t2 _ _ (show ∃ u_ : Int32, IsPick (okIn f_since d.toInt) keyL v_size.toInt u_ ∧ HedU (FasU 1 f_sizes f_kinds f_firsts f_seconds u_ d k) (CC f_kinds f_firsts 3 0) (CC f_kinds f_firsts 4 k) (CC f_kinds f_firsts 6 0) f_seconds f_sizes u_ k r_t2 from by first | exact ⟨u_, hu, (-1), (-1), (-1), Or.inr ⟨if0 hfs (by omega), by omega⟩, Or.inr ⟨by omega, rfl⟩, Or.inr ⟨by omega, rfl⟩, by first | exact Or.inl ⟨by omega, by omega⟩ | exact Or.inr ⟨by omega, rfl⟩⟩ | exact ⟨u_, hu, (-1), (-1), r_t3, Or.inr ⟨if0 hfs (by omega), by omega⟩, Or.inr ⟨by omega, rfl⟩, Or.inl ⟨by omega, ht3⟩, by first | exact Or.inl ⟨by omega, by omega⟩ | exact Or.inr ⟨by omega, rfl⟩⟩ | exact ⟨u_, hu, (-1), r_t2, r_t2, Or.inr ⟨if0 hfs (by omega), by omega⟩, Or.inl ⟨⟨by omega, by omega⟩, ht2⟩, Or.inr ⟨by omega, rfl⟩, by first | exact Or.inl ⟨by omega, by omega⟩ | exact Or.inr ⟨by omega, rfl⟩⟩ | exact ⟨u_, hu, (-1), r_t2, r_t3, Or.inr ⟨if0 hfs (by omega), by omega⟩, Or.inl ⟨⟨by omega, by omega⟩, ht2⟩, Or.inl ⟨by omega, ht3⟩, by first | exact Or.inl ⟨by omega, by omega⟩ | exact Or.inr ⟨by omega, rfl⟩⟩ | exact ⟨u_, hu, r_t1, r_t1, r_t1, Or.inl ⟨if1 hfs (by omega), ht1⟩, Or.inr ⟨by omega, rfl⟩, Or.inr ⟨by omega, rfl⟩, by first | exact Or.inl ⟨by omega, by omega⟩ | exact Or.inr ⟨by omega, rfl⟩⟩ | exact ⟨u_, hu, r_t1, r_t1, r_t3, Or.inl ⟨if1 hfs (by omega), ht1⟩, Or.inr ⟨by omega, rfl⟩, Or.inl ⟨by omega, ht3⟩, by first | exact Or.inl ⟨by omega, by omega⟩ | exact Or.inr ⟨by omega, rfl⟩⟩ | exact ⟨u_, hu, r_t1, r_t2, r_t2, Or.inl ⟨if1 hfs (by omega), ht1⟩, Or.inl ⟨⟨by omega, by omega⟩, ht2⟩, Or.inr ⟨by omega, rfl⟩, by first | exact Or.inl ⟨by omega, by omega⟩ | exact Or.inr ⟨by omega, rfl⟩⟩ | exact ⟨u_, hu, r_t1, r_t2, r_t3, Or.inl ⟨if1 hfs (by omega), ht1⟩, Or.inl ⟨⟨by omega, by omega⟩, ht2⟩, Or.inl ⟨by omega, ht3⟩, by first | exact Or.inl ⟨by omega, by omega⟩ | exact Or.inr ⟨by omega, rfl⟩⟩) rfl dX7_shareOfHead_60
          · have tc_7 := t_eq c_7
            refine lv_iconst (v := 2) hx hb dX7_shareOfHead_55 (by decide) ?_
            refine lv_goto (tgt := 60) hx hb dX7_shareOfHead_56 (by decide) ?_
            exact hret 2 _ _ (show ∃ u_ : Int32, IsPick (okIn f_since d.toInt) keyL v_size.toInt u_ ∧ HedU (FasU 1 f_sizes f_kinds f_firsts f_seconds u_ d k) (CC f_kinds f_firsts 3 0) (CC f_kinds f_firsts 4 k) (CC f_kinds f_firsts 6 0) f_seconds f_sizes u_ k (2 : Int32) from by first | exact ⟨u_, hu, (-1), (-1), (-1), Or.inr ⟨if0 hfs (by omega), by omega⟩, Or.inr ⟨by omega, rfl⟩, Or.inr ⟨by omega, rfl⟩, by first | exact Or.inl ⟨by omega, by omega⟩ | exact Or.inr ⟨by omega, rfl⟩⟩ | exact ⟨u_, hu, (-1), (-1), r_t3, Or.inr ⟨if0 hfs (by omega), by omega⟩, Or.inr ⟨by omega, rfl⟩, Or.inl ⟨by omega, ht3⟩, by first | exact Or.inl ⟨by omega, by omega⟩ | exact Or.inr ⟨by omega, rfl⟩⟩ | exact ⟨u_, hu, (-1), r_t2, r_t2, Or.inr ⟨if0 hfs (by omega), by omega⟩, Or.inl ⟨⟨by omega, by omega⟩, ht2⟩, Or.inr ⟨by omega, rfl⟩, by first | exact Or.inl ⟨by omega, by omega⟩ | exact Or.inr ⟨by omega, rfl⟩⟩ | exact ⟨u_, hu, (-1), r_t2, r_t3, Or.inr ⟨if0 hfs (by omega), by omega⟩, Or.inl ⟨⟨by omega, by omega⟩, ht2⟩, Or.inl ⟨by omega, ht3⟩, by first | exact Or.inl ⟨by omega, by omega⟩ | exact Or.inr ⟨by omega, rfl⟩⟩ | exact ⟨u_, hu, r_t1, r_t1, r_t1, Or.inl ⟨if1 hfs (by omega), ht1⟩, Or.inr ⟨by omega, rfl⟩, Or.inr ⟨by omega, rfl⟩, by first | exact Or.inl ⟨by omega, by omega⟩ | exact Or.inr ⟨by omega, rfl⟩⟩ | exact ⟨u_, hu, r_t1, r_t1, r_t3, Or.inl ⟨if1 hfs (by omega), ht1⟩, Or.inr ⟨by omega, rfl⟩, Or.inl ⟨by omega, ht3⟩, by first | exact Or.inl ⟨by omega, by omega⟩ | exact Or.inr ⟨by omega, rfl⟩⟩ | exact ⟨u_, hu, r_t1, r_t2, r_t2, Or.inl ⟨if1 hfs (by omega), ht1⟩, Or.inl ⟨⟨by omega, by omega⟩, ht2⟩, Or.inr ⟨by omega, rfl⟩, by first | exact Or.inl ⟨by omega, by omega⟩ | exact Or.inr ⟨by omega, rfl⟩⟩ | exact ⟨u_, hu, r_t1, r_t2, r_t3, Or.inl ⟨if1 hfs (by omega), ht1⟩, Or.inl ⟨⟨by omega, by omega⟩, ht2⟩, Or.inl ⟨by omega, ht3⟩, by first | exact Or.inl ⟨by omega, by omega⟩ | exact Or.inr ⟨by omega, rfl⟩⟩) rfl dX7_shareOfHead_60
        · have tc_6 := t_eq c_6
          refine lv_aload_n hx hb dX7_shareOfHead_41 rfl (lv_at hl 1 rfl) ?_
          refine lv_iload_n hx hb dX7_shareOfHead_42 rfl (lv_at hl 2 rfl) ?_
          refine lv_bipush (v := 6) hx hb dX7_shareOfHead_43 (by decide) ?_
          refine lv_iconst (v := 0) hx hb dX7_shareOfHead_45 (by decide) ?_
          have hPc := hP.sub (ws' := [(h, .inr (7, [.ref a_since, .ref a_sizes, .ref a_kinds, .ref a_firsts, .ref a_seconds, .int v_size])), (a_since, .inl (cI, 10, .inl f_since)), (a_sizes, .inl (cI, 10, .inl f_sizes)), (a_kinds, .inl (cI, 160, .inl f_kinds)), (a_firsts, .inl (cI, 160, .inl f_firsts)), (a_seconds, .inl (cI, 160, .inl f_seconds))]) [0, 1, 2, 3, 4, 5] rfl
          refine roV (As := [.int d, .int 6, .int 0]) (rest := []) S (r_lastE  (by omega) (by omega) (hs)) (cwV 3 hts gX7_shareOfHead_X7_lastTold rfl rfl rfl ⟨rfl, hd_X7_lastTold⟩ ⟨Nat.le_of_ble_eq_true rfl, Nat.le_of_ble_eq_true rfl⟩) hK hPc (va_recv hK.1 hPc (ci := 7) (q0 := 0) rfl rfl) rfl hl.1 rfl (Nat.le_of_ble_eq_true rfl) dX7_shareOfHead_46 ⟨Nat.le_of_ble_eq_true rfl, Nat.le_of_ble_eq_true rfl⟩ (fun r_t3 hw_t3 => ?_)
          have hw_t3 : ∃ u_ : Int32, IsPick (okIn f_since d.toInt) keyL v_size.toInt u_ ∧ LasU (CC f_kinds f_firsts (6 : Int32) (0 : Int32)) f_seconds f_sizes u_ r_t3 := hw_t3
          obtain ⟨x_t3, hx_t3, ht3⟩ := hw_t3
          have es_t3 := hu.same hx_t3
          subst es_t3
          refine lv_istore_n (lv' := [(3, .int r_t3), (0, .ref h), (1, .int d), (2, .int k)]) hx hb dX7_shareOfHead_49 rfl hl (by decide) rfl (fun ls hl => ?_)
          refine lv_iload_n hx hb dX7_shareOfHead_50 rfl (lv_at hl 0 rfl) ?_
          refine lv_iconst (v := (-1)) hx hb dX7_shareOfHead_51 (by decide) ?_
          refine lv_icmp_ne (tgt := 59) hx hb dX7_shareOfHead_52 (by decide) (fun c_8 => ?_) (fun c_8 => ?_)
          · have tc_8 := t_neq c_8
            refine lv_iload_n hx hb dX7_shareOfHead_59 rfl (lv_at hl 0 rfl) ?_
            exact hret r_t3 _ _ (show ∃ u_ : Int32, IsPick (okIn f_since d.toInt) keyL v_size.toInt u_ ∧ HedU (FasU 1 f_sizes f_kinds f_firsts f_seconds u_ d k) (CC f_kinds f_firsts 3 0) (CC f_kinds f_firsts 4 k) (CC f_kinds f_firsts 6 0) f_seconds f_sizes u_ k r_t3 from by first | exact ⟨u_, hu, (-1), (-1), (-1), Or.inr ⟨if0 hfs (by omega), by omega⟩, Or.inr ⟨by omega, rfl⟩, Or.inr ⟨by omega, rfl⟩, by first | exact Or.inl ⟨by omega, by omega⟩ | exact Or.inr ⟨by omega, rfl⟩⟩ | exact ⟨u_, hu, (-1), (-1), r_t3, Or.inr ⟨if0 hfs (by omega), by omega⟩, Or.inr ⟨by omega, rfl⟩, Or.inl ⟨by omega, ht3⟩, by first | exact Or.inl ⟨by omega, by omega⟩ | exact Or.inr ⟨by omega, rfl⟩⟩ | exact ⟨u_, hu, (-1), r_t2, r_t2, Or.inr ⟨if0 hfs (by omega), by omega⟩, Or.inl ⟨⟨by omega, by omega⟩, ht2⟩, Or.inr ⟨by omega, rfl⟩, by first | exact Or.inl ⟨by omega, by omega⟩ | exact Or.inr ⟨by omega, rfl⟩⟩ | exact ⟨u_, hu, (-1), r_t2, r_t3, Or.inr ⟨if0 hfs (by omega), by omega⟩, Or.inl ⟨⟨by omega, by omega⟩, ht2⟩, Or.inl ⟨by omega, ht3⟩, by first | exact Or.inl ⟨by omega, by omega⟩ | exact Or.inr ⟨by omega, rfl⟩⟩ | exact ⟨u_, hu, r_t1, r_t1, r_t1, Or.inl ⟨if1 hfs (by omega), ht1⟩, Or.inr ⟨by omega, rfl⟩, Or.inr ⟨by omega, rfl⟩, by first | exact Or.inl ⟨by omega, by omega⟩ | exact Or.inr ⟨by omega, rfl⟩⟩ | exact ⟨u_, hu, r_t1, r_t1, r_t3, Or.inl ⟨if1 hfs (by omega), ht1⟩, Or.inr ⟨by omega, rfl⟩, Or.inl ⟨by omega, ht3⟩, by first | exact Or.inl ⟨by omega, by omega⟩ | exact Or.inr ⟨by omega, rfl⟩⟩ | exact ⟨u_, hu, r_t1, r_t2, r_t2, Or.inl ⟨if1 hfs (by omega), ht1⟩, Or.inl ⟨⟨by omega, by omega⟩, ht2⟩, Or.inr ⟨by omega, rfl⟩, by first | exact Or.inl ⟨by omega, by omega⟩ | exact Or.inr ⟨by omega, rfl⟩⟩ | exact ⟨u_, hu, r_t1, r_t2, r_t3, Or.inl ⟨if1 hfs (by omega), ht1⟩, Or.inl ⟨⟨by omega, by omega⟩, ht2⟩, Or.inl ⟨by omega, ht3⟩, by first | exact Or.inl ⟨by omega, by omega⟩ | exact Or.inr ⟨by omega, rfl⟩⟩) rfl dX7_shareOfHead_60
          · have tc_8 := t_eq c_8
            refine lv_iconst (v := 2) hx hb dX7_shareOfHead_55 (by decide) ?_
            refine lv_goto (tgt := 60) hx hb dX7_shareOfHead_56 (by decide) ?_
            exact hret 2 _ _ (show ∃ u_ : Int32, IsPick (okIn f_since d.toInt) keyL v_size.toInt u_ ∧ HedU (FasU 1 f_sizes f_kinds f_firsts f_seconds u_ d k) (CC f_kinds f_firsts 3 0) (CC f_kinds f_firsts 4 k) (CC f_kinds f_firsts 6 0) f_seconds f_sizes u_ k (2 : Int32) from by first | exact ⟨u_, hu, (-1), (-1), (-1), Or.inr ⟨if0 hfs (by omega), by omega⟩, Or.inr ⟨by omega, rfl⟩, Or.inr ⟨by omega, rfl⟩, by first | exact Or.inl ⟨by omega, by omega⟩ | exact Or.inr ⟨by omega, rfl⟩⟩ | exact ⟨u_, hu, (-1), (-1), r_t3, Or.inr ⟨if0 hfs (by omega), by omega⟩, Or.inr ⟨by omega, rfl⟩, Or.inl ⟨by omega, ht3⟩, by first | exact Or.inl ⟨by omega, by omega⟩ | exact Or.inr ⟨by omega, rfl⟩⟩ | exact ⟨u_, hu, (-1), r_t2, r_t2, Or.inr ⟨if0 hfs (by omega), by omega⟩, Or.inl ⟨⟨by omega, by omega⟩, ht2⟩, Or.inr ⟨by omega, rfl⟩, by first | exact Or.inl ⟨by omega, by omega⟩ | exact Or.inr ⟨by omega, rfl⟩⟩ | exact ⟨u_, hu, (-1), r_t2, r_t3, Or.inr ⟨if0 hfs (by omega), by omega⟩, Or.inl ⟨⟨by omega, by omega⟩, ht2⟩, Or.inl ⟨by omega, ht3⟩, by first | exact Or.inl ⟨by omega, by omega⟩ | exact Or.inr ⟨by omega, rfl⟩⟩ | exact ⟨u_, hu, r_t1, r_t1, r_t1, Or.inl ⟨if1 hfs (by omega), ht1⟩, Or.inr ⟨by omega, rfl⟩, Or.inr ⟨by omega, rfl⟩, by first | exact Or.inl ⟨by omega, by omega⟩ | exact Or.inr ⟨by omega, rfl⟩⟩ | exact ⟨u_, hu, r_t1, r_t1, r_t3, Or.inl ⟨if1 hfs (by omega), ht1⟩, Or.inr ⟨by omega, rfl⟩, Or.inl ⟨by omega, ht3⟩, by first | exact Or.inl ⟨by omega, by omega⟩ | exact Or.inr ⟨by omega, rfl⟩⟩ | exact ⟨u_, hu, r_t1, r_t2, r_t2, Or.inl ⟨if1 hfs (by omega), ht1⟩, Or.inl ⟨⟨by omega, by omega⟩, ht2⟩, Or.inr ⟨by omega, rfl⟩, by first | exact Or.inl ⟨by omega, by omega⟩ | exact Or.inr ⟨by omega, rfl⟩⟩ | exact ⟨u_, hu, r_t1, r_t2, r_t3, Or.inl ⟨if1 hfs (by omega), ht1⟩, Or.inl ⟨⟨by omega, by omega⟩, ht2⟩, Or.inl ⟨by omega, ht3⟩, by first | exact Or.inl ⟨by omega, by omega⟩ | exact Or.inr ⟨by omega, rfl⟩⟩) rfl dX7_shareOfHead_60
  · have tc_1 := t_neq c_1
    refine lv_aload_n hx hb dX7_shareOfHead_11 rfl (lv_at hl 1 rfl) ?_
    refine lv_iload_n hx hb dX7_shareOfHead_12 rfl (lv_at hl 2 rfl) ?_
    refine lv_iconst (v := 3) hx hb dX7_shareOfHead_13 (by decide) ?_
    refine lv_iconst (v := 0) hx hb dX7_shareOfHead_14 (by decide) ?_
    have hPc := hP.sub (ws' := [(h, .inr (7, [.ref a_since, .ref a_sizes, .ref a_kinds, .ref a_firsts, .ref a_seconds, .int v_size])), (a_since, .inl (cI, 10, .inl f_since)), (a_sizes, .inl (cI, 10, .inl f_sizes)), (a_kinds, .inl (cI, 160, .inl f_kinds)), (a_firsts, .inl (cI, 160, .inl f_firsts)), (a_seconds, .inl (cI, 160, .inl f_seconds))]) [0, 1, 2, 3, 4, 5] rfl
    refine roV (As := [.int d, .int 3, .int 0]) (rest := []) S (r_lastE  (by omega) (by omega) (hs)) (cwV 3 hts gX7_shareOfHead_X7_lastTold rfl rfl rfl ⟨rfl, hd_X7_lastTold⟩ ⟨Nat.le_of_ble_eq_true rfl, Nat.le_of_ble_eq_true rfl⟩) hK hPc (va_recv hK.1 hPc (ci := 7) (q0 := 0) rfl rfl) rfl hl.1 rfl (Nat.le_of_ble_eq_true rfl) dX7_shareOfHead_15 ⟨Nat.le_of_ble_eq_true rfl, Nat.le_of_ble_eq_true rfl⟩ (fun r_t1 hw_t1 => ?_)
    have hw_t1 : ∃ u_ : Int32, IsPick (okIn f_since d.toInt) keyL v_size.toInt u_ ∧ LasU (CC f_kinds f_firsts (3 : Int32) (0 : Int32)) f_seconds f_sizes u_ r_t1 := hw_t1
    obtain ⟨x_t1, hx_t1, ht1⟩ := hw_t1
    have es_t1 := hu.same hx_t1
    subst es_t1
    refine lv_istore_n (lv' := [(3, .int r_t1), (0, .ref h), (1, .int d), (2, .int k)]) hx hb dX7_shareOfHead_18 rfl hl (by decide) rfl (fun ls hl => ?_)
    refine lv_iload_n hx hb dX7_shareOfHead_19 rfl (lv_at hl 0 rfl) ?_
    refine lv_iconst (v := (-1)) hx hb dX7_shareOfHead_20 (by decide) ?_
    refine lv_icmp_ne (tgt := 36) hx hb dX7_shareOfHead_21 (by decide) (fun c_9 => ?_) (fun c_9 => ?_)
    · have tc_9 := t_neq c_9
      refine lv_iload_n hx hb dX7_shareOfHead_36 rfl (lv_at hl 0 rfl) ?_
      refine lv_iconst (v := (-1)) hx hb dX7_shareOfHead_37 (by decide) ?_
      refine lv_icmp_ne (tgt := 50) hx hb dX7_shareOfHead_38 (by decide) (fun c_10 => ?_) (fun c_10 => ?_)
      · have tc_10 := t_neq c_10
        refine lv_iload_n hx hb dX7_shareOfHead_50 rfl (lv_at hl 0 rfl) ?_
        refine lv_iconst (v := (-1)) hx hb dX7_shareOfHead_51 (by decide) ?_
        refine lv_icmp_ne (tgt := 59) hx hb dX7_shareOfHead_52 (by decide) (fun c_11 => ?_) (fun c_11 => ?_)
        · have tc_11 := t_neq c_11
          refine lv_iload_n hx hb dX7_shareOfHead_59 rfl (lv_at hl 0 rfl) ?_
          exact hret r_t1 _ _ (show ∃ u_ : Int32, IsPick (okIn f_since d.toInt) keyL v_size.toInt u_ ∧ HedU (FasU 1 f_sizes f_kinds f_firsts f_seconds u_ d k) (CC f_kinds f_firsts 3 0) (CC f_kinds f_firsts 4 k) (CC f_kinds f_firsts 6 0) f_seconds f_sizes u_ k r_t1 from by first | exact ⟨u_, hu, (-1), (-1), (-1), Or.inr ⟨if0 hfs (by omega), by omega⟩, Or.inr ⟨by omega, rfl⟩, Or.inr ⟨by omega, rfl⟩, by first | exact Or.inl ⟨by omega, by omega⟩ | exact Or.inr ⟨by omega, rfl⟩⟩ | exact ⟨u_, hu, (-1), (-1), r_t3, Or.inr ⟨if0 hfs (by omega), by omega⟩, Or.inr ⟨by omega, rfl⟩, Or.inl ⟨by omega, ht3⟩, by first | exact Or.inl ⟨by omega, by omega⟩ | exact Or.inr ⟨by omega, rfl⟩⟩ | exact ⟨u_, hu, (-1), r_t2, r_t2, Or.inr ⟨if0 hfs (by omega), by omega⟩, Or.inl ⟨⟨by omega, by omega⟩, ht2⟩, Or.inr ⟨by omega, rfl⟩, by first | exact Or.inl ⟨by omega, by omega⟩ | exact Or.inr ⟨by omega, rfl⟩⟩ | exact ⟨u_, hu, (-1), r_t2, r_t3, Or.inr ⟨if0 hfs (by omega), by omega⟩, Or.inl ⟨⟨by omega, by omega⟩, ht2⟩, Or.inl ⟨by omega, ht3⟩, by first | exact Or.inl ⟨by omega, by omega⟩ | exact Or.inr ⟨by omega, rfl⟩⟩ | exact ⟨u_, hu, r_t1, r_t1, r_t1, Or.inl ⟨if1 hfs (by omega), ht1⟩, Or.inr ⟨by omega, rfl⟩, Or.inr ⟨by omega, rfl⟩, by first | exact Or.inl ⟨by omega, by omega⟩ | exact Or.inr ⟨by omega, rfl⟩⟩ | exact ⟨u_, hu, r_t1, r_t1, r_t3, Or.inl ⟨if1 hfs (by omega), ht1⟩, Or.inr ⟨by omega, rfl⟩, Or.inl ⟨by omega, ht3⟩, by first | exact Or.inl ⟨by omega, by omega⟩ | exact Or.inr ⟨by omega, rfl⟩⟩ | exact ⟨u_, hu, r_t1, r_t2, r_t2, Or.inl ⟨if1 hfs (by omega), ht1⟩, Or.inl ⟨⟨by omega, by omega⟩, ht2⟩, Or.inr ⟨by omega, rfl⟩, by first | exact Or.inl ⟨by omega, by omega⟩ | exact Or.inr ⟨by omega, rfl⟩⟩ | exact ⟨u_, hu, r_t1, r_t2, r_t3, Or.inl ⟨if1 hfs (by omega), ht1⟩, Or.inl ⟨⟨by omega, by omega⟩, ht2⟩, Or.inl ⟨by omega, ht3⟩, by first | exact Or.inl ⟨by omega, by omega⟩ | exact Or.inr ⟨by omega, rfl⟩⟩) rfl dX7_shareOfHead_60
        · have tc_11 := t_eq c_11
          refine lv_iconst (v := 2) hx hb dX7_shareOfHead_55 (by decide) ?_
          refine lv_goto (tgt := 60) hx hb dX7_shareOfHead_56 (by decide) ?_
          exact hret 2 _ _ (show ∃ u_ : Int32, IsPick (okIn f_since d.toInt) keyL v_size.toInt u_ ∧ HedU (FasU 1 f_sizes f_kinds f_firsts f_seconds u_ d k) (CC f_kinds f_firsts 3 0) (CC f_kinds f_firsts 4 k) (CC f_kinds f_firsts 6 0) f_seconds f_sizes u_ k (2 : Int32) from by first | exact ⟨u_, hu, (-1), (-1), (-1), Or.inr ⟨if0 hfs (by omega), by omega⟩, Or.inr ⟨by omega, rfl⟩, Or.inr ⟨by omega, rfl⟩, by first | exact Or.inl ⟨by omega, by omega⟩ | exact Or.inr ⟨by omega, rfl⟩⟩ | exact ⟨u_, hu, (-1), (-1), r_t3, Or.inr ⟨if0 hfs (by omega), by omega⟩, Or.inr ⟨by omega, rfl⟩, Or.inl ⟨by omega, ht3⟩, by first | exact Or.inl ⟨by omega, by omega⟩ | exact Or.inr ⟨by omega, rfl⟩⟩ | exact ⟨u_, hu, (-1), r_t2, r_t2, Or.inr ⟨if0 hfs (by omega), by omega⟩, Or.inl ⟨⟨by omega, by omega⟩, ht2⟩, Or.inr ⟨by omega, rfl⟩, by first | exact Or.inl ⟨by omega, by omega⟩ | exact Or.inr ⟨by omega, rfl⟩⟩ | exact ⟨u_, hu, (-1), r_t2, r_t3, Or.inr ⟨if0 hfs (by omega), by omega⟩, Or.inl ⟨⟨by omega, by omega⟩, ht2⟩, Or.inl ⟨by omega, ht3⟩, by first | exact Or.inl ⟨by omega, by omega⟩ | exact Or.inr ⟨by omega, rfl⟩⟩ | exact ⟨u_, hu, r_t1, r_t1, r_t1, Or.inl ⟨if1 hfs (by omega), ht1⟩, Or.inr ⟨by omega, rfl⟩, Or.inr ⟨by omega, rfl⟩, by first | exact Or.inl ⟨by omega, by omega⟩ | exact Or.inr ⟨by omega, rfl⟩⟩ | exact ⟨u_, hu, r_t1, r_t1, r_t3, Or.inl ⟨if1 hfs (by omega), ht1⟩, Or.inr ⟨by omega, rfl⟩, Or.inl ⟨by omega, ht3⟩, by first | exact Or.inl ⟨by omega, by omega⟩ | exact Or.inr ⟨by omega, rfl⟩⟩ | exact ⟨u_, hu, r_t1, r_t2, r_t2, Or.inl ⟨if1 hfs (by omega), ht1⟩, Or.inl ⟨⟨by omega, by omega⟩, ht2⟩, Or.inr ⟨by omega, rfl⟩, by first | exact Or.inl ⟨by omega, by omega⟩ | exact Or.inr ⟨by omega, rfl⟩⟩ | exact ⟨u_, hu, r_t1, r_t2, r_t3, Or.inl ⟨if1 hfs (by omega), ht1⟩, Or.inl ⟨⟨by omega, by omega⟩, ht2⟩, Or.inl ⟨by omega, ht3⟩, by first | exact Or.inl ⟨by omega, by omega⟩ | exact Or.inr ⟨by omega, rfl⟩⟩) rfl dX7_shareOfHead_60
      · have tc_10 := t_eq c_10
        refine lv_aload_n hx hb dX7_shareOfHead_41 rfl (lv_at hl 1 rfl) ?_
        refine lv_iload_n hx hb dX7_shareOfHead_42 rfl (lv_at hl 2 rfl) ?_
        refine lv_bipush (v := 6) hx hb dX7_shareOfHead_43 (by decide) ?_
        refine lv_iconst (v := 0) hx hb dX7_shareOfHead_45 (by decide) ?_
        have hPc := hP.sub (ws' := [(h, .inr (7, [.ref a_since, .ref a_sizes, .ref a_kinds, .ref a_firsts, .ref a_seconds, .int v_size])), (a_since, .inl (cI, 10, .inl f_since)), (a_sizes, .inl (cI, 10, .inl f_sizes)), (a_kinds, .inl (cI, 160, .inl f_kinds)), (a_firsts, .inl (cI, 160, .inl f_firsts)), (a_seconds, .inl (cI, 160, .inl f_seconds))]) [0, 1, 2, 3, 4, 5] rfl
        refine roV (As := [.int d, .int 6, .int 0]) (rest := []) S (r_lastE  (by omega) (by omega) (hs)) (cwV 3 hts gX7_shareOfHead_X7_lastTold rfl rfl rfl ⟨rfl, hd_X7_lastTold⟩ ⟨Nat.le_of_ble_eq_true rfl, Nat.le_of_ble_eq_true rfl⟩) hK hPc (va_recv hK.1 hPc (ci := 7) (q0 := 0) rfl rfl) rfl hl.1 rfl (Nat.le_of_ble_eq_true rfl) dX7_shareOfHead_46 ⟨Nat.le_of_ble_eq_true rfl, Nat.le_of_ble_eq_true rfl⟩ (fun r_t3 hw_t3 => ?_)
        have hw_t3 : ∃ u_ : Int32, IsPick (okIn f_since d.toInt) keyL v_size.toInt u_ ∧ LasU (CC f_kinds f_firsts (6 : Int32) (0 : Int32)) f_seconds f_sizes u_ r_t3 := hw_t3
        obtain ⟨x_t3, hx_t3, ht3⟩ := hw_t3
        have es_t3 := hu.same hx_t3
        subst es_t3
        refine lv_istore_n (lv' := [(3, .int r_t3), (0, .ref h), (1, .int d), (2, .int k)]) hx hb dX7_shareOfHead_49 rfl hl (by decide) rfl (fun ls hl => ?_)
        refine lv_iload_n hx hb dX7_shareOfHead_50 rfl (lv_at hl 0 rfl) ?_
        refine lv_iconst (v := (-1)) hx hb dX7_shareOfHead_51 (by decide) ?_
        refine lv_icmp_ne (tgt := 59) hx hb dX7_shareOfHead_52 (by decide) (fun c_12 => ?_) (fun c_12 => ?_)
        · have tc_12 := t_neq c_12
          refine lv_iload_n hx hb dX7_shareOfHead_59 rfl (lv_at hl 0 rfl) ?_
          exact hret r_t3 _ _ (show ∃ u_ : Int32, IsPick (okIn f_since d.toInt) keyL v_size.toInt u_ ∧ HedU (FasU 1 f_sizes f_kinds f_firsts f_seconds u_ d k) (CC f_kinds f_firsts 3 0) (CC f_kinds f_firsts 4 k) (CC f_kinds f_firsts 6 0) f_seconds f_sizes u_ k r_t3 from by first | exact ⟨u_, hu, (-1), (-1), (-1), Or.inr ⟨if0 hfs (by omega), by omega⟩, Or.inr ⟨by omega, rfl⟩, Or.inr ⟨by omega, rfl⟩, by first | exact Or.inl ⟨by omega, by omega⟩ | exact Or.inr ⟨by omega, rfl⟩⟩ | exact ⟨u_, hu, (-1), (-1), r_t3, Or.inr ⟨if0 hfs (by omega), by omega⟩, Or.inr ⟨by omega, rfl⟩, Or.inl ⟨by omega, ht3⟩, by first | exact Or.inl ⟨by omega, by omega⟩ | exact Or.inr ⟨by omega, rfl⟩⟩ | exact ⟨u_, hu, (-1), r_t2, r_t2, Or.inr ⟨if0 hfs (by omega), by omega⟩, Or.inl ⟨⟨by omega, by omega⟩, ht2⟩, Or.inr ⟨by omega, rfl⟩, by first | exact Or.inl ⟨by omega, by omega⟩ | exact Or.inr ⟨by omega, rfl⟩⟩ | exact ⟨u_, hu, (-1), r_t2, r_t3, Or.inr ⟨if0 hfs (by omega), by omega⟩, Or.inl ⟨⟨by omega, by omega⟩, ht2⟩, Or.inl ⟨by omega, ht3⟩, by first | exact Or.inl ⟨by omega, by omega⟩ | exact Or.inr ⟨by omega, rfl⟩⟩ | exact ⟨u_, hu, r_t1, r_t1, r_t1, Or.inl ⟨if1 hfs (by omega), ht1⟩, Or.inr ⟨by omega, rfl⟩, Or.inr ⟨by omega, rfl⟩, by first | exact Or.inl ⟨by omega, by omega⟩ | exact Or.inr ⟨by omega, rfl⟩⟩ | exact ⟨u_, hu, r_t1, r_t1, r_t3, Or.inl ⟨if1 hfs (by omega), ht1⟩, Or.inr ⟨by omega, rfl⟩, Or.inl ⟨by omega, ht3⟩, by first | exact Or.inl ⟨by omega, by omega⟩ | exact Or.inr ⟨by omega, rfl⟩⟩ | exact ⟨u_, hu, r_t1, r_t2, r_t2, Or.inl ⟨if1 hfs (by omega), ht1⟩, Or.inl ⟨⟨by omega, by omega⟩, ht2⟩, Or.inr ⟨by omega, rfl⟩, by first | exact Or.inl ⟨by omega, by omega⟩ | exact Or.inr ⟨by omega, rfl⟩⟩ | exact ⟨u_, hu, r_t1, r_t2, r_t3, Or.inl ⟨if1 hfs (by omega), ht1⟩, Or.inl ⟨⟨by omega, by omega⟩, ht2⟩, Or.inl ⟨by omega, ht3⟩, by first | exact Or.inl ⟨by omega, by omega⟩ | exact Or.inr ⟨by omega, rfl⟩⟩) rfl dX7_shareOfHead_60
        · have tc_12 := t_eq c_12
          refine lv_iconst (v := 2) hx hb dX7_shareOfHead_55 (by decide) ?_
          refine lv_goto (tgt := 60) hx hb dX7_shareOfHead_56 (by decide) ?_
          exact hret 2 _ _ (show ∃ u_ : Int32, IsPick (okIn f_since d.toInt) keyL v_size.toInt u_ ∧ HedU (FasU 1 f_sizes f_kinds f_firsts f_seconds u_ d k) (CC f_kinds f_firsts 3 0) (CC f_kinds f_firsts 4 k) (CC f_kinds f_firsts 6 0) f_seconds f_sizes u_ k (2 : Int32) from by first | exact ⟨u_, hu, (-1), (-1), (-1), Or.inr ⟨if0 hfs (by omega), by omega⟩, Or.inr ⟨by omega, rfl⟩, Or.inr ⟨by omega, rfl⟩, by first | exact Or.inl ⟨by omega, by omega⟩ | exact Or.inr ⟨by omega, rfl⟩⟩ | exact ⟨u_, hu, (-1), (-1), r_t3, Or.inr ⟨if0 hfs (by omega), by omega⟩, Or.inr ⟨by omega, rfl⟩, Or.inl ⟨by omega, ht3⟩, by first | exact Or.inl ⟨by omega, by omega⟩ | exact Or.inr ⟨by omega, rfl⟩⟩ | exact ⟨u_, hu, (-1), r_t2, r_t2, Or.inr ⟨if0 hfs (by omega), by omega⟩, Or.inl ⟨⟨by omega, by omega⟩, ht2⟩, Or.inr ⟨by omega, rfl⟩, by first | exact Or.inl ⟨by omega, by omega⟩ | exact Or.inr ⟨by omega, rfl⟩⟩ | exact ⟨u_, hu, (-1), r_t2, r_t3, Or.inr ⟨if0 hfs (by omega), by omega⟩, Or.inl ⟨⟨by omega, by omega⟩, ht2⟩, Or.inl ⟨by omega, ht3⟩, by first | exact Or.inl ⟨by omega, by omega⟩ | exact Or.inr ⟨by omega, rfl⟩⟩ | exact ⟨u_, hu, r_t1, r_t1, r_t1, Or.inl ⟨if1 hfs (by omega), ht1⟩, Or.inr ⟨by omega, rfl⟩, Or.inr ⟨by omega, rfl⟩, by first | exact Or.inl ⟨by omega, by omega⟩ | exact Or.inr ⟨by omega, rfl⟩⟩ | exact ⟨u_, hu, r_t1, r_t1, r_t3, Or.inl ⟨if1 hfs (by omega), ht1⟩, Or.inr ⟨by omega, rfl⟩, Or.inl ⟨by omega, ht3⟩, by first | exact Or.inl ⟨by omega, by omega⟩ | exact Or.inr ⟨by omega, rfl⟩⟩ | exact ⟨u_, hu, r_t1, r_t2, r_t2, Or.inl ⟨if1 hfs (by omega), ht1⟩, Or.inl ⟨⟨by omega, by omega⟩, ht2⟩, Or.inr ⟨by omega, rfl⟩, by first | exact Or.inl ⟨by omega, by omega⟩ | exact Or.inr ⟨by omega, rfl⟩⟩ | exact ⟨u_, hu, r_t1, r_t2, r_t3, Or.inl ⟨if1 hfs (by omega), ht1⟩, Or.inl ⟨⟨by omega, by omega⟩, ht2⟩, Or.inl ⟨by omega, ht3⟩, by first | exact Or.inl ⟨by omega, by omega⟩ | exact Or.inr ⟨by omega, rfl⟩⟩) rfl dX7_shareOfHead_60
    · have tc_9 := t_eq c_9
      refine lv_iload_n hx hb dX7_shareOfHead_24 rfl (lv_at hl 3 rfl) ?_
      refine lv_if_le (tgt := 36) hx hb dX7_shareOfHead_25 (by decide) (fun c_13 => ?_) (fun c_13 => ?_)
      · have tc_13 := t_le c_13
        refine lv_iload_n hx hb dX7_shareOfHead_36 rfl (lv_at hl 0 rfl) ?_
        refine lv_iconst (v := (-1)) hx hb dX7_shareOfHead_37 (by decide) ?_
        refine lv_icmp_ne (tgt := 50) hx hb dX7_shareOfHead_38 (by decide) (fun c_14 => ?_) (fun c_14 => ?_)
        · have tc_14 := t_neq c_14
          refine lv_iload_n hx hb dX7_shareOfHead_50 rfl (lv_at hl 0 rfl) ?_
          refine lv_iconst (v := (-1)) hx hb dX7_shareOfHead_51 (by decide) ?_
          refine lv_icmp_ne (tgt := 59) hx hb dX7_shareOfHead_52 (by decide) (fun c_15 => ?_) (fun c_15 => ?_)
          · have tc_15 := t_neq c_15
            refine lv_iload_n hx hb dX7_shareOfHead_59 rfl (lv_at hl 0 rfl) ?_
            exact hret r_t1 _ _ (show ∃ u_ : Int32, IsPick (okIn f_since d.toInt) keyL v_size.toInt u_ ∧ HedU (FasU 1 f_sizes f_kinds f_firsts f_seconds u_ d k) (CC f_kinds f_firsts 3 0) (CC f_kinds f_firsts 4 k) (CC f_kinds f_firsts 6 0) f_seconds f_sizes u_ k r_t1 from by first | exact ⟨u_, hu, (-1), (-1), (-1), Or.inr ⟨if0 hfs (by omega), by omega⟩, Or.inr ⟨by omega, rfl⟩, Or.inr ⟨by omega, rfl⟩, by first | exact Or.inl ⟨by omega, by omega⟩ | exact Or.inr ⟨by omega, rfl⟩⟩ | exact ⟨u_, hu, (-1), (-1), r_t3, Or.inr ⟨if0 hfs (by omega), by omega⟩, Or.inr ⟨by omega, rfl⟩, Or.inl ⟨by omega, ht3⟩, by first | exact Or.inl ⟨by omega, by omega⟩ | exact Or.inr ⟨by omega, rfl⟩⟩ | exact ⟨u_, hu, (-1), r_t2, r_t2, Or.inr ⟨if0 hfs (by omega), by omega⟩, Or.inl ⟨⟨by omega, by omega⟩, ht2⟩, Or.inr ⟨by omega, rfl⟩, by first | exact Or.inl ⟨by omega, by omega⟩ | exact Or.inr ⟨by omega, rfl⟩⟩ | exact ⟨u_, hu, (-1), r_t2, r_t3, Or.inr ⟨if0 hfs (by omega), by omega⟩, Or.inl ⟨⟨by omega, by omega⟩, ht2⟩, Or.inl ⟨by omega, ht3⟩, by first | exact Or.inl ⟨by omega, by omega⟩ | exact Or.inr ⟨by omega, rfl⟩⟩ | exact ⟨u_, hu, r_t1, r_t1, r_t1, Or.inl ⟨if1 hfs (by omega), ht1⟩, Or.inr ⟨by omega, rfl⟩, Or.inr ⟨by omega, rfl⟩, by first | exact Or.inl ⟨by omega, by omega⟩ | exact Or.inr ⟨by omega, rfl⟩⟩ | exact ⟨u_, hu, r_t1, r_t1, r_t3, Or.inl ⟨if1 hfs (by omega), ht1⟩, Or.inr ⟨by omega, rfl⟩, Or.inl ⟨by omega, ht3⟩, by first | exact Or.inl ⟨by omega, by omega⟩ | exact Or.inr ⟨by omega, rfl⟩⟩ | exact ⟨u_, hu, r_t1, r_t2, r_t2, Or.inl ⟨if1 hfs (by omega), ht1⟩, Or.inl ⟨⟨by omega, by omega⟩, ht2⟩, Or.inr ⟨by omega, rfl⟩, by first | exact Or.inl ⟨by omega, by omega⟩ | exact Or.inr ⟨by omega, rfl⟩⟩ | exact ⟨u_, hu, r_t1, r_t2, r_t3, Or.inl ⟨if1 hfs (by omega), ht1⟩, Or.inl ⟨⟨by omega, by omega⟩, ht2⟩, Or.inl ⟨by omega, ht3⟩, by first | exact Or.inl ⟨by omega, by omega⟩ | exact Or.inr ⟨by omega, rfl⟩⟩) rfl dX7_shareOfHead_60
          · have tc_15 := t_eq c_15
            refine lv_iconst (v := 2) hx hb dX7_shareOfHead_55 (by decide) ?_
            refine lv_goto (tgt := 60) hx hb dX7_shareOfHead_56 (by decide) ?_
            exact hret 2 _ _ (show ∃ u_ : Int32, IsPick (okIn f_since d.toInt) keyL v_size.toInt u_ ∧ HedU (FasU 1 f_sizes f_kinds f_firsts f_seconds u_ d k) (CC f_kinds f_firsts 3 0) (CC f_kinds f_firsts 4 k) (CC f_kinds f_firsts 6 0) f_seconds f_sizes u_ k (2 : Int32) from by first | exact ⟨u_, hu, (-1), (-1), (-1), Or.inr ⟨if0 hfs (by omega), by omega⟩, Or.inr ⟨by omega, rfl⟩, Or.inr ⟨by omega, rfl⟩, by first | exact Or.inl ⟨by omega, by omega⟩ | exact Or.inr ⟨by omega, rfl⟩⟩ | exact ⟨u_, hu, (-1), (-1), r_t3, Or.inr ⟨if0 hfs (by omega), by omega⟩, Or.inr ⟨by omega, rfl⟩, Or.inl ⟨by omega, ht3⟩, by first | exact Or.inl ⟨by omega, by omega⟩ | exact Or.inr ⟨by omega, rfl⟩⟩ | exact ⟨u_, hu, (-1), r_t2, r_t2, Or.inr ⟨if0 hfs (by omega), by omega⟩, Or.inl ⟨⟨by omega, by omega⟩, ht2⟩, Or.inr ⟨by omega, rfl⟩, by first | exact Or.inl ⟨by omega, by omega⟩ | exact Or.inr ⟨by omega, rfl⟩⟩ | exact ⟨u_, hu, (-1), r_t2, r_t3, Or.inr ⟨if0 hfs (by omega), by omega⟩, Or.inl ⟨⟨by omega, by omega⟩, ht2⟩, Or.inl ⟨by omega, ht3⟩, by first | exact Or.inl ⟨by omega, by omega⟩ | exact Or.inr ⟨by omega, rfl⟩⟩ | exact ⟨u_, hu, r_t1, r_t1, r_t1, Or.inl ⟨if1 hfs (by omega), ht1⟩, Or.inr ⟨by omega, rfl⟩, Or.inr ⟨by omega, rfl⟩, by first | exact Or.inl ⟨by omega, by omega⟩ | exact Or.inr ⟨by omega, rfl⟩⟩ | exact ⟨u_, hu, r_t1, r_t1, r_t3, Or.inl ⟨if1 hfs (by omega), ht1⟩, Or.inr ⟨by omega, rfl⟩, Or.inl ⟨by omega, ht3⟩, by first | exact Or.inl ⟨by omega, by omega⟩ | exact Or.inr ⟨by omega, rfl⟩⟩ | exact ⟨u_, hu, r_t1, r_t2, r_t2, Or.inl ⟨if1 hfs (by omega), ht1⟩, Or.inl ⟨⟨by omega, by omega⟩, ht2⟩, Or.inr ⟨by omega, rfl⟩, by first | exact Or.inl ⟨by omega, by omega⟩ | exact Or.inr ⟨by omega, rfl⟩⟩ | exact ⟨u_, hu, r_t1, r_t2, r_t3, Or.inl ⟨if1 hfs (by omega), ht1⟩, Or.inl ⟨⟨by omega, by omega⟩, ht2⟩, Or.inl ⟨by omega, ht3⟩, by first | exact Or.inl ⟨by omega, by omega⟩ | exact Or.inr ⟨by omega, rfl⟩⟩) rfl dX7_shareOfHead_60
        · have tc_14 := t_eq c_14
          refine lv_aload_n hx hb dX7_shareOfHead_41 rfl (lv_at hl 1 rfl) ?_
          refine lv_iload_n hx hb dX7_shareOfHead_42 rfl (lv_at hl 2 rfl) ?_
          refine lv_bipush (v := 6) hx hb dX7_shareOfHead_43 (by decide) ?_
          refine lv_iconst (v := 0) hx hb dX7_shareOfHead_45 (by decide) ?_
          have hPc := hP.sub (ws' := [(h, .inr (7, [.ref a_since, .ref a_sizes, .ref a_kinds, .ref a_firsts, .ref a_seconds, .int v_size])), (a_since, .inl (cI, 10, .inl f_since)), (a_sizes, .inl (cI, 10, .inl f_sizes)), (a_kinds, .inl (cI, 160, .inl f_kinds)), (a_firsts, .inl (cI, 160, .inl f_firsts)), (a_seconds, .inl (cI, 160, .inl f_seconds))]) [0, 1, 2, 3, 4, 5] rfl
          refine roV (As := [.int d, .int 6, .int 0]) (rest := []) S (r_lastE  (by omega) (by omega) (hs)) (cwV 3 hts gX7_shareOfHead_X7_lastTold rfl rfl rfl ⟨rfl, hd_X7_lastTold⟩ ⟨Nat.le_of_ble_eq_true rfl, Nat.le_of_ble_eq_true rfl⟩) hK hPc (va_recv hK.1 hPc (ci := 7) (q0 := 0) rfl rfl) rfl hl.1 rfl (Nat.le_of_ble_eq_true rfl) dX7_shareOfHead_46 ⟨Nat.le_of_ble_eq_true rfl, Nat.le_of_ble_eq_true rfl⟩ (fun r_t3 hw_t3 => ?_)
          have hw_t3 : ∃ u_ : Int32, IsPick (okIn f_since d.toInt) keyL v_size.toInt u_ ∧ LasU (CC f_kinds f_firsts (6 : Int32) (0 : Int32)) f_seconds f_sizes u_ r_t3 := hw_t3
          obtain ⟨x_t3, hx_t3, ht3⟩ := hw_t3
          have es_t3 := hu.same hx_t3
          subst es_t3
          refine lv_istore_n (lv' := [(3, .int r_t3), (0, .ref h), (1, .int d), (2, .int k)]) hx hb dX7_shareOfHead_49 rfl hl (by decide) rfl (fun ls hl => ?_)
          refine lv_iload_n hx hb dX7_shareOfHead_50 rfl (lv_at hl 0 rfl) ?_
          refine lv_iconst (v := (-1)) hx hb dX7_shareOfHead_51 (by decide) ?_
          refine lv_icmp_ne (tgt := 59) hx hb dX7_shareOfHead_52 (by decide) (fun c_16 => ?_) (fun c_16 => ?_)
          · have tc_16 := t_neq c_16
            refine lv_iload_n hx hb dX7_shareOfHead_59 rfl (lv_at hl 0 rfl) ?_
            exact hret r_t3 _ _ (show ∃ u_ : Int32, IsPick (okIn f_since d.toInt) keyL v_size.toInt u_ ∧ HedU (FasU 1 f_sizes f_kinds f_firsts f_seconds u_ d k) (CC f_kinds f_firsts 3 0) (CC f_kinds f_firsts 4 k) (CC f_kinds f_firsts 6 0) f_seconds f_sizes u_ k r_t3 from by first | exact ⟨u_, hu, (-1), (-1), (-1), Or.inr ⟨if0 hfs (by omega), by omega⟩, Or.inr ⟨by omega, rfl⟩, Or.inr ⟨by omega, rfl⟩, by first | exact Or.inl ⟨by omega, by omega⟩ | exact Or.inr ⟨by omega, rfl⟩⟩ | exact ⟨u_, hu, (-1), (-1), r_t3, Or.inr ⟨if0 hfs (by omega), by omega⟩, Or.inr ⟨by omega, rfl⟩, Or.inl ⟨by omega, ht3⟩, by first | exact Or.inl ⟨by omega, by omega⟩ | exact Or.inr ⟨by omega, rfl⟩⟩ | exact ⟨u_, hu, (-1), r_t2, r_t2, Or.inr ⟨if0 hfs (by omega), by omega⟩, Or.inl ⟨⟨by omega, by omega⟩, ht2⟩, Or.inr ⟨by omega, rfl⟩, by first | exact Or.inl ⟨by omega, by omega⟩ | exact Or.inr ⟨by omega, rfl⟩⟩ | exact ⟨u_, hu, (-1), r_t2, r_t3, Or.inr ⟨if0 hfs (by omega), by omega⟩, Or.inl ⟨⟨by omega, by omega⟩, ht2⟩, Or.inl ⟨by omega, ht3⟩, by first | exact Or.inl ⟨by omega, by omega⟩ | exact Or.inr ⟨by omega, rfl⟩⟩ | exact ⟨u_, hu, r_t1, r_t1, r_t1, Or.inl ⟨if1 hfs (by omega), ht1⟩, Or.inr ⟨by omega, rfl⟩, Or.inr ⟨by omega, rfl⟩, by first | exact Or.inl ⟨by omega, by omega⟩ | exact Or.inr ⟨by omega, rfl⟩⟩ | exact ⟨u_, hu, r_t1, r_t1, r_t3, Or.inl ⟨if1 hfs (by omega), ht1⟩, Or.inr ⟨by omega, rfl⟩, Or.inl ⟨by omega, ht3⟩, by first | exact Or.inl ⟨by omega, by omega⟩ | exact Or.inr ⟨by omega, rfl⟩⟩ | exact ⟨u_, hu, r_t1, r_t2, r_t2, Or.inl ⟨if1 hfs (by omega), ht1⟩, Or.inl ⟨⟨by omega, by omega⟩, ht2⟩, Or.inr ⟨by omega, rfl⟩, by first | exact Or.inl ⟨by omega, by omega⟩ | exact Or.inr ⟨by omega, rfl⟩⟩ | exact ⟨u_, hu, r_t1, r_t2, r_t3, Or.inl ⟨if1 hfs (by omega), ht1⟩, Or.inl ⟨⟨by omega, by omega⟩, ht2⟩, Or.inl ⟨by omega, ht3⟩, by first | exact Or.inl ⟨by omega, by omega⟩ | exact Or.inr ⟨by omega, rfl⟩⟩) rfl dX7_shareOfHead_60
          · have tc_16 := t_eq c_16
            refine lv_iconst (v := 2) hx hb dX7_shareOfHead_55 (by decide) ?_
            refine lv_goto (tgt := 60) hx hb dX7_shareOfHead_56 (by decide) ?_
            exact hret 2 _ _ (show ∃ u_ : Int32, IsPick (okIn f_since d.toInt) keyL v_size.toInt u_ ∧ HedU (FasU 1 f_sizes f_kinds f_firsts f_seconds u_ d k) (CC f_kinds f_firsts 3 0) (CC f_kinds f_firsts 4 k) (CC f_kinds f_firsts 6 0) f_seconds f_sizes u_ k (2 : Int32) from by first | exact ⟨u_, hu, (-1), (-1), (-1), Or.inr ⟨if0 hfs (by omega), by omega⟩, Or.inr ⟨by omega, rfl⟩, Or.inr ⟨by omega, rfl⟩, by first | exact Or.inl ⟨by omega, by omega⟩ | exact Or.inr ⟨by omega, rfl⟩⟩ | exact ⟨u_, hu, (-1), (-1), r_t3, Or.inr ⟨if0 hfs (by omega), by omega⟩, Or.inr ⟨by omega, rfl⟩, Or.inl ⟨by omega, ht3⟩, by first | exact Or.inl ⟨by omega, by omega⟩ | exact Or.inr ⟨by omega, rfl⟩⟩ | exact ⟨u_, hu, (-1), r_t2, r_t2, Or.inr ⟨if0 hfs (by omega), by omega⟩, Or.inl ⟨⟨by omega, by omega⟩, ht2⟩, Or.inr ⟨by omega, rfl⟩, by first | exact Or.inl ⟨by omega, by omega⟩ | exact Or.inr ⟨by omega, rfl⟩⟩ | exact ⟨u_, hu, (-1), r_t2, r_t3, Or.inr ⟨if0 hfs (by omega), by omega⟩, Or.inl ⟨⟨by omega, by omega⟩, ht2⟩, Or.inl ⟨by omega, ht3⟩, by first | exact Or.inl ⟨by omega, by omega⟩ | exact Or.inr ⟨by omega, rfl⟩⟩ | exact ⟨u_, hu, r_t1, r_t1, r_t1, Or.inl ⟨if1 hfs (by omega), ht1⟩, Or.inr ⟨by omega, rfl⟩, Or.inr ⟨by omega, rfl⟩, by first | exact Or.inl ⟨by omega, by omega⟩ | exact Or.inr ⟨by omega, rfl⟩⟩ | exact ⟨u_, hu, r_t1, r_t1, r_t3, Or.inl ⟨if1 hfs (by omega), ht1⟩, Or.inr ⟨by omega, rfl⟩, Or.inl ⟨by omega, ht3⟩, by first | exact Or.inl ⟨by omega, by omega⟩ | exact Or.inr ⟨by omega, rfl⟩⟩ | exact ⟨u_, hu, r_t1, r_t2, r_t2, Or.inl ⟨if1 hfs (by omega), ht1⟩, Or.inl ⟨⟨by omega, by omega⟩, ht2⟩, Or.inr ⟨by omega, rfl⟩, by first | exact Or.inl ⟨by omega, by omega⟩ | exact Or.inr ⟨by omega, rfl⟩⟩ | exact ⟨u_, hu, r_t1, r_t2, r_t3, Or.inl ⟨if1 hfs (by omega), ht1⟩, Or.inl ⟨⟨by omega, by omega⟩, ht2⟩, Or.inl ⟨by omega, ht3⟩, by first | exact Or.inl ⟨by omega, by omega⟩ | exact Or.inr ⟨by omega, rfl⟩⟩) rfl dX7_shareOfHead_60
      · have tc_13 := t_nle c_13
        refine lv_aload_n hx hb dX7_shareOfHead_28 rfl (lv_at hl 1 rfl) ?_
        refine lv_iload_n hx hb dX7_shareOfHead_29 rfl (lv_at hl 2 rfl) ?_
        refine lv_iconst (v := 4) hx hb dX7_shareOfHead_30 (by decide) ?_
        refine lv_iload_n hx hb dX7_shareOfHead_31 rfl (lv_at hl 3 rfl) ?_
        have hPc := hP.sub (ws' := [(h, .inr (7, [.ref a_since, .ref a_sizes, .ref a_kinds, .ref a_firsts, .ref a_seconds, .int v_size])), (a_since, .inl (cI, 10, .inl f_since)), (a_sizes, .inl (cI, 10, .inl f_sizes)), (a_kinds, .inl (cI, 160, .inl f_kinds)), (a_firsts, .inl (cI, 160, .inl f_firsts)), (a_seconds, .inl (cI, 160, .inl f_seconds))]) [0, 1, 2, 3, 4, 5] rfl
        refine roV (As := [.int d, .int 4, .int k]) (rest := []) S (r_lastE  (by omega) (by omega) (hs)) (cwV 3 hts gX7_shareOfHead_X7_lastTold rfl rfl rfl ⟨rfl, hd_X7_lastTold⟩ ⟨Nat.le_of_ble_eq_true rfl, Nat.le_of_ble_eq_true rfl⟩) hK hPc (va_recv hK.1 hPc (ci := 7) (q0 := 0) rfl rfl) rfl hl.1 rfl (Nat.le_of_ble_eq_true rfl) dX7_shareOfHead_32 ⟨Nat.le_of_ble_eq_true rfl, Nat.le_of_ble_eq_true rfl⟩ (fun r_t2 hw_t2 => ?_)
        have hw_t2 : ∃ u_ : Int32, IsPick (okIn f_since d.toInt) keyL v_size.toInt u_ ∧ LasU (CC f_kinds f_firsts (4 : Int32) k) f_seconds f_sizes u_ r_t2 := hw_t2
        obtain ⟨x_t2, hx_t2, ht2⟩ := hw_t2
        have es_t2 := hu.same hx_t2
        subst es_t2
        refine lv_istore_n (lv' := [(3, .int r_t2), (0, .ref h), (1, .int d), (2, .int k)]) hx hb dX7_shareOfHead_35 rfl hl (by decide) rfl (fun ls hl => ?_)
        refine lv_iload_n hx hb dX7_shareOfHead_36 rfl (lv_at hl 0 rfl) ?_
        refine lv_iconst (v := (-1)) hx hb dX7_shareOfHead_37 (by decide) ?_
        refine lv_icmp_ne (tgt := 50) hx hb dX7_shareOfHead_38 (by decide) (fun c_17 => ?_) (fun c_17 => ?_)
        · have tc_17 := t_neq c_17
          refine lv_iload_n hx hb dX7_shareOfHead_50 rfl (lv_at hl 0 rfl) ?_
          refine lv_iconst (v := (-1)) hx hb dX7_shareOfHead_51 (by decide) ?_
          refine lv_icmp_ne (tgt := 59) hx hb dX7_shareOfHead_52 (by decide) (fun c_18 => ?_) (fun c_18 => ?_)
          · have tc_18 := t_neq c_18
            refine lv_iload_n hx hb dX7_shareOfHead_59 rfl (lv_at hl 0 rfl) ?_
            exact hret r_t2 _ _ (show ∃ u_ : Int32, IsPick (okIn f_since d.toInt) keyL v_size.toInt u_ ∧ HedU (FasU 1 f_sizes f_kinds f_firsts f_seconds u_ d k) (CC f_kinds f_firsts 3 0) (CC f_kinds f_firsts 4 k) (CC f_kinds f_firsts 6 0) f_seconds f_sizes u_ k r_t2 from by first | exact ⟨u_, hu, (-1), (-1), (-1), Or.inr ⟨if0 hfs (by omega), by omega⟩, Or.inr ⟨by omega, rfl⟩, Or.inr ⟨by omega, rfl⟩, by first | exact Or.inl ⟨by omega, by omega⟩ | exact Or.inr ⟨by omega, rfl⟩⟩ | exact ⟨u_, hu, (-1), (-1), r_t3, Or.inr ⟨if0 hfs (by omega), by omega⟩, Or.inr ⟨by omega, rfl⟩, Or.inl ⟨by omega, ht3⟩, by first | exact Or.inl ⟨by omega, by omega⟩ | exact Or.inr ⟨by omega, rfl⟩⟩ | exact ⟨u_, hu, (-1), r_t2, r_t2, Or.inr ⟨if0 hfs (by omega), by omega⟩, Or.inl ⟨⟨by omega, by omega⟩, ht2⟩, Or.inr ⟨by omega, rfl⟩, by first | exact Or.inl ⟨by omega, by omega⟩ | exact Or.inr ⟨by omega, rfl⟩⟩ | exact ⟨u_, hu, (-1), r_t2, r_t3, Or.inr ⟨if0 hfs (by omega), by omega⟩, Or.inl ⟨⟨by omega, by omega⟩, ht2⟩, Or.inl ⟨by omega, ht3⟩, by first | exact Or.inl ⟨by omega, by omega⟩ | exact Or.inr ⟨by omega, rfl⟩⟩ | exact ⟨u_, hu, r_t1, r_t1, r_t1, Or.inl ⟨if1 hfs (by omega), ht1⟩, Or.inr ⟨by omega, rfl⟩, Or.inr ⟨by omega, rfl⟩, by first | exact Or.inl ⟨by omega, by omega⟩ | exact Or.inr ⟨by omega, rfl⟩⟩ | exact ⟨u_, hu, r_t1, r_t1, r_t3, Or.inl ⟨if1 hfs (by omega), ht1⟩, Or.inr ⟨by omega, rfl⟩, Or.inl ⟨by omega, ht3⟩, by first | exact Or.inl ⟨by omega, by omega⟩ | exact Or.inr ⟨by omega, rfl⟩⟩ | exact ⟨u_, hu, r_t1, r_t2, r_t2, Or.inl ⟨if1 hfs (by omega), ht1⟩, Or.inl ⟨⟨by omega, by omega⟩, ht2⟩, Or.inr ⟨by omega, rfl⟩, by first | exact Or.inl ⟨by omega, by omega⟩ | exact Or.inr ⟨by omega, rfl⟩⟩ | exact ⟨u_, hu, r_t1, r_t2, r_t3, Or.inl ⟨if1 hfs (by omega), ht1⟩, Or.inl ⟨⟨by omega, by omega⟩, ht2⟩, Or.inl ⟨by omega, ht3⟩, by first | exact Or.inl ⟨by omega, by omega⟩ | exact Or.inr ⟨by omega, rfl⟩⟩) rfl dX7_shareOfHead_60
          · have tc_18 := t_eq c_18
            refine lv_iconst (v := 2) hx hb dX7_shareOfHead_55 (by decide) ?_
            refine lv_goto (tgt := 60) hx hb dX7_shareOfHead_56 (by decide) ?_
            exact hret 2 _ _ (show ∃ u_ : Int32, IsPick (okIn f_since d.toInt) keyL v_size.toInt u_ ∧ HedU (FasU 1 f_sizes f_kinds f_firsts f_seconds u_ d k) (CC f_kinds f_firsts 3 0) (CC f_kinds f_firsts 4 k) (CC f_kinds f_firsts 6 0) f_seconds f_sizes u_ k (2 : Int32) from by first | exact ⟨u_, hu, (-1), (-1), (-1), Or.inr ⟨if0 hfs (by omega), by omega⟩, Or.inr ⟨by omega, rfl⟩, Or.inr ⟨by omega, rfl⟩, by first | exact Or.inl ⟨by omega, by omega⟩ | exact Or.inr ⟨by omega, rfl⟩⟩ | exact ⟨u_, hu, (-1), (-1), r_t3, Or.inr ⟨if0 hfs (by omega), by omega⟩, Or.inr ⟨by omega, rfl⟩, Or.inl ⟨by omega, ht3⟩, by first | exact Or.inl ⟨by omega, by omega⟩ | exact Or.inr ⟨by omega, rfl⟩⟩ | exact ⟨u_, hu, (-1), r_t2, r_t2, Or.inr ⟨if0 hfs (by omega), by omega⟩, Or.inl ⟨⟨by omega, by omega⟩, ht2⟩, Or.inr ⟨by omega, rfl⟩, by first | exact Or.inl ⟨by omega, by omega⟩ | exact Or.inr ⟨by omega, rfl⟩⟩ | exact ⟨u_, hu, (-1), r_t2, r_t3, Or.inr ⟨if0 hfs (by omega), by omega⟩, Or.inl ⟨⟨by omega, by omega⟩, ht2⟩, Or.inl ⟨by omega, ht3⟩, by first | exact Or.inl ⟨by omega, by omega⟩ | exact Or.inr ⟨by omega, rfl⟩⟩ | exact ⟨u_, hu, r_t1, r_t1, r_t1, Or.inl ⟨if1 hfs (by omega), ht1⟩, Or.inr ⟨by omega, rfl⟩, Or.inr ⟨by omega, rfl⟩, by first | exact Or.inl ⟨by omega, by omega⟩ | exact Or.inr ⟨by omega, rfl⟩⟩ | exact ⟨u_, hu, r_t1, r_t1, r_t3, Or.inl ⟨if1 hfs (by omega), ht1⟩, Or.inr ⟨by omega, rfl⟩, Or.inl ⟨by omega, ht3⟩, by first | exact Or.inl ⟨by omega, by omega⟩ | exact Or.inr ⟨by omega, rfl⟩⟩ | exact ⟨u_, hu, r_t1, r_t2, r_t2, Or.inl ⟨if1 hfs (by omega), ht1⟩, Or.inl ⟨⟨by omega, by omega⟩, ht2⟩, Or.inr ⟨by omega, rfl⟩, by first | exact Or.inl ⟨by omega, by omega⟩ | exact Or.inr ⟨by omega, rfl⟩⟩ | exact ⟨u_, hu, r_t1, r_t2, r_t3, Or.inl ⟨if1 hfs (by omega), ht1⟩, Or.inl ⟨⟨by omega, by omega⟩, ht2⟩, Or.inl ⟨by omega, ht3⟩, by first | exact Or.inl ⟨by omega, by omega⟩ | exact Or.inr ⟨by omega, rfl⟩⟩) rfl dX7_shareOfHead_60
        · have tc_17 := t_eq c_17
          refine lv_aload_n hx hb dX7_shareOfHead_41 rfl (lv_at hl 1 rfl) ?_
          refine lv_iload_n hx hb dX7_shareOfHead_42 rfl (lv_at hl 2 rfl) ?_
          refine lv_bipush (v := 6) hx hb dX7_shareOfHead_43 (by decide) ?_
          refine lv_iconst (v := 0) hx hb dX7_shareOfHead_45 (by decide) ?_
          have hPc := hP.sub (ws' := [(h, .inr (7, [.ref a_since, .ref a_sizes, .ref a_kinds, .ref a_firsts, .ref a_seconds, .int v_size])), (a_since, .inl (cI, 10, .inl f_since)), (a_sizes, .inl (cI, 10, .inl f_sizes)), (a_kinds, .inl (cI, 160, .inl f_kinds)), (a_firsts, .inl (cI, 160, .inl f_firsts)), (a_seconds, .inl (cI, 160, .inl f_seconds))]) [0, 1, 2, 3, 4, 5] rfl
          refine roV (As := [.int d, .int 6, .int 0]) (rest := []) S (r_lastE  (by omega) (by omega) (hs)) (cwV 3 hts gX7_shareOfHead_X7_lastTold rfl rfl rfl ⟨rfl, hd_X7_lastTold⟩ ⟨Nat.le_of_ble_eq_true rfl, Nat.le_of_ble_eq_true rfl⟩) hK hPc (va_recv hK.1 hPc (ci := 7) (q0 := 0) rfl rfl) rfl hl.1 rfl (Nat.le_of_ble_eq_true rfl) dX7_shareOfHead_46 ⟨Nat.le_of_ble_eq_true rfl, Nat.le_of_ble_eq_true rfl⟩ (fun r_t3 hw_t3 => ?_)
          have hw_t3 : ∃ u_ : Int32, IsPick (okIn f_since d.toInt) keyL v_size.toInt u_ ∧ LasU (CC f_kinds f_firsts (6 : Int32) (0 : Int32)) f_seconds f_sizes u_ r_t3 := hw_t3
          obtain ⟨x_t3, hx_t3, ht3⟩ := hw_t3
          have es_t3 := hu.same hx_t3
          subst es_t3
          refine lv_istore_n (lv' := [(3, .int r_t3), (0, .ref h), (1, .int d), (2, .int k)]) hx hb dX7_shareOfHead_49 rfl hl (by decide) rfl (fun ls hl => ?_)
          refine lv_iload_n hx hb dX7_shareOfHead_50 rfl (lv_at hl 0 rfl) ?_
          refine lv_iconst (v := (-1)) hx hb dX7_shareOfHead_51 (by decide) ?_
          refine lv_icmp_ne (tgt := 59) hx hb dX7_shareOfHead_52 (by decide) (fun c_19 => ?_) (fun c_19 => ?_)
          · have tc_19 := t_neq c_19
            refine lv_iload_n hx hb dX7_shareOfHead_59 rfl (lv_at hl 0 rfl) ?_
            exact hret r_t3 _ _ (show ∃ u_ : Int32, IsPick (okIn f_since d.toInt) keyL v_size.toInt u_ ∧ HedU (FasU 1 f_sizes f_kinds f_firsts f_seconds u_ d k) (CC f_kinds f_firsts 3 0) (CC f_kinds f_firsts 4 k) (CC f_kinds f_firsts 6 0) f_seconds f_sizes u_ k r_t3 from by first | exact ⟨u_, hu, (-1), (-1), (-1), Or.inr ⟨if0 hfs (by omega), by omega⟩, Or.inr ⟨by omega, rfl⟩, Or.inr ⟨by omega, rfl⟩, by first | exact Or.inl ⟨by omega, by omega⟩ | exact Or.inr ⟨by omega, rfl⟩⟩ | exact ⟨u_, hu, (-1), (-1), r_t3, Or.inr ⟨if0 hfs (by omega), by omega⟩, Or.inr ⟨by omega, rfl⟩, Or.inl ⟨by omega, ht3⟩, by first | exact Or.inl ⟨by omega, by omega⟩ | exact Or.inr ⟨by omega, rfl⟩⟩ | exact ⟨u_, hu, (-1), r_t2, r_t2, Or.inr ⟨if0 hfs (by omega), by omega⟩, Or.inl ⟨⟨by omega, by omega⟩, ht2⟩, Or.inr ⟨by omega, rfl⟩, by first | exact Or.inl ⟨by omega, by omega⟩ | exact Or.inr ⟨by omega, rfl⟩⟩ | exact ⟨u_, hu, (-1), r_t2, r_t3, Or.inr ⟨if0 hfs (by omega), by omega⟩, Or.inl ⟨⟨by omega, by omega⟩, ht2⟩, Or.inl ⟨by omega, ht3⟩, by first | exact Or.inl ⟨by omega, by omega⟩ | exact Or.inr ⟨by omega, rfl⟩⟩ | exact ⟨u_, hu, r_t1, r_t1, r_t1, Or.inl ⟨if1 hfs (by omega), ht1⟩, Or.inr ⟨by omega, rfl⟩, Or.inr ⟨by omega, rfl⟩, by first | exact Or.inl ⟨by omega, by omega⟩ | exact Or.inr ⟨by omega, rfl⟩⟩ | exact ⟨u_, hu, r_t1, r_t1, r_t3, Or.inl ⟨if1 hfs (by omega), ht1⟩, Or.inr ⟨by omega, rfl⟩, Or.inl ⟨by omega, ht3⟩, by first | exact Or.inl ⟨by omega, by omega⟩ | exact Or.inr ⟨by omega, rfl⟩⟩ | exact ⟨u_, hu, r_t1, r_t2, r_t2, Or.inl ⟨if1 hfs (by omega), ht1⟩, Or.inl ⟨⟨by omega, by omega⟩, ht2⟩, Or.inr ⟨by omega, rfl⟩, by first | exact Or.inl ⟨by omega, by omega⟩ | exact Or.inr ⟨by omega, rfl⟩⟩ | exact ⟨u_, hu, r_t1, r_t2, r_t3, Or.inl ⟨if1 hfs (by omega), ht1⟩, Or.inl ⟨⟨by omega, by omega⟩, ht2⟩, Or.inl ⟨by omega, ht3⟩, by first | exact Or.inl ⟨by omega, by omega⟩ | exact Or.inr ⟨by omega, rfl⟩⟩) rfl dX7_shareOfHead_60
          · have tc_19 := t_eq c_19
            refine lv_iconst (v := 2) hx hb dX7_shareOfHead_55 (by decide) ?_
            refine lv_goto (tgt := 60) hx hb dX7_shareOfHead_56 (by decide) ?_
            exact hret 2 _ _ (show ∃ u_ : Int32, IsPick (okIn f_since d.toInt) keyL v_size.toInt u_ ∧ HedU (FasU 1 f_sizes f_kinds f_firsts f_seconds u_ d k) (CC f_kinds f_firsts 3 0) (CC f_kinds f_firsts 4 k) (CC f_kinds f_firsts 6 0) f_seconds f_sizes u_ k (2 : Int32) from by first | exact ⟨u_, hu, (-1), (-1), (-1), Or.inr ⟨if0 hfs (by omega), by omega⟩, Or.inr ⟨by omega, rfl⟩, Or.inr ⟨by omega, rfl⟩, by first | exact Or.inl ⟨by omega, by omega⟩ | exact Or.inr ⟨by omega, rfl⟩⟩ | exact ⟨u_, hu, (-1), (-1), r_t3, Or.inr ⟨if0 hfs (by omega), by omega⟩, Or.inr ⟨by omega, rfl⟩, Or.inl ⟨by omega, ht3⟩, by first | exact Or.inl ⟨by omega, by omega⟩ | exact Or.inr ⟨by omega, rfl⟩⟩ | exact ⟨u_, hu, (-1), r_t2, r_t2, Or.inr ⟨if0 hfs (by omega), by omega⟩, Or.inl ⟨⟨by omega, by omega⟩, ht2⟩, Or.inr ⟨by omega, rfl⟩, by first | exact Or.inl ⟨by omega, by omega⟩ | exact Or.inr ⟨by omega, rfl⟩⟩ | exact ⟨u_, hu, (-1), r_t2, r_t3, Or.inr ⟨if0 hfs (by omega), by omega⟩, Or.inl ⟨⟨by omega, by omega⟩, ht2⟩, Or.inl ⟨by omega, ht3⟩, by first | exact Or.inl ⟨by omega, by omega⟩ | exact Or.inr ⟨by omega, rfl⟩⟩ | exact ⟨u_, hu, r_t1, r_t1, r_t1, Or.inl ⟨if1 hfs (by omega), ht1⟩, Or.inr ⟨by omega, rfl⟩, Or.inr ⟨by omega, rfl⟩, by first | exact Or.inl ⟨by omega, by omega⟩ | exact Or.inr ⟨by omega, rfl⟩⟩ | exact ⟨u_, hu, r_t1, r_t1, r_t3, Or.inl ⟨if1 hfs (by omega), ht1⟩, Or.inr ⟨by omega, rfl⟩, Or.inl ⟨by omega, ht3⟩, by first | exact Or.inl ⟨by omega, by omega⟩ | exact Or.inr ⟨by omega, rfl⟩⟩ | exact ⟨u_, hu, r_t1, r_t2, r_t2, Or.inl ⟨if1 hfs (by omega), ht1⟩, Or.inl ⟨⟨by omega, by omega⟩, ht2⟩, Or.inr ⟨by omega, rfl⟩, by first | exact Or.inl ⟨by omega, by omega⟩ | exact Or.inr ⟨by omega, rfl⟩⟩ | exact ⟨u_, hu, r_t1, r_t2, r_t3, Or.inl ⟨if1 hfs (by omega), ht1⟩, Or.inl ⟨⟨by omega, by omega⟩, ht2⟩, Or.inl ⟨by omega, ht3⟩, by first | exact Or.inl ⟨by omega, by omega⟩ | exact Or.inr ⟨by omega, rfl⟩⟩) rfl dX7_shareOfHead_60

set_option maxHeartbeats 8000000 in
set_option maxRecDepth 100000 in
theorem r_guestE {l : Launch} {D : va_G} {cI cZ cB : ClassId} {h a_since a_sizes a_kinds a_firsts a_seconds : Nat} {v_size : Int32} {f_since f_sizes f_kinds f_firsts f_seconds : Nat → Int32} {d : Int32} (hv_size0 : 0 ≤ v_size.toInt) (hv_size1 : v_size.toInt ≤ 10) (hs : InR f_sizes v_size.toInt 0 17) : Met l yX7_shareOfGuest wsX7_shareOfGuest ({ frames := 2, cells := 0, slots := 0, locals := 47 }) (RO D cI cZ cB [.ref h, .int d] [(h, .inr (7, [.ref a_since, .ref a_sizes, .ref a_kinds, .ref a_firsts, .ref a_seconds, .int v_size])), (a_since, .inl (cI, 10, .inl f_since)), (a_sizes, .inl (cI, 10, .inl f_sizes)), (a_kinds, .inl (cI, 160, .inl f_kinds)), (a_firsts, .inl (cI, 160, .inl f_firsts)), (a_seconds, .inl (cI, 160, .inl f_seconds))]) (vp_Si (fun r : Int32 => ∃ u_ : Int32, IsPick (okIn f_since d.toInt) keyL v_size.toInt u_ ∧ GueU (CC f_kinds f_firsts 5 0) f_seconds f_sizes u_ r)) 0 0 (fun _ => False) := by
  refine ro_ret (cc := cX7_shareOfGuest) (maxL := 3) (ty := .int) (own := RX7) (by decide) rfl rfl (Nat.le_of_ble_eq_true rfl) ?_
  intro p e s m args below meth c Q S hret hP hK ls hl
  obtain ⟨hx, hb, hml, hown, hts⟩ := id S
  have hl : lv_has ls 3 [(0, .ref h), (1, .int d)] := hl
  have kkm1 : (-1 : Int32).toInt = -1 := by decide
  have kk0 : (0 : Int32).toInt = 0 := by decide
  have kk3 : (3 : Int32).toInt = 3 := by decide
  have kk5 : (5 : Int32).toInt = 5 := by decide
  refine lv_aload_n hx hb dX7_shareOfGuest_0 rfl (lv_at hl 0 rfl) ?_
  refine lv_iload_n hx hb dX7_shareOfGuest_1 rfl (lv_at hl 1 rfl) ?_
  refine lv_iconst (v := 5) hx hb dX7_shareOfGuest_2 (by decide) ?_
  refine lv_iconst (v := 0) hx hb dX7_shareOfGuest_3 (by decide) ?_
  have hPc := hP.sub (ws' := [(h, .inr (7, [.ref a_since, .ref a_sizes, .ref a_kinds, .ref a_firsts, .ref a_seconds, .int v_size])), (a_since, .inl (cI, 10, .inl f_since)), (a_sizes, .inl (cI, 10, .inl f_sizes)), (a_kinds, .inl (cI, 160, .inl f_kinds)), (a_firsts, .inl (cI, 160, .inl f_firsts)), (a_seconds, .inl (cI, 160, .inl f_seconds))]) [0, 1, 2, 3, 4, 5] rfl
  refine roV (As := [.int d, .int 5, .int 0]) (rest := []) S (r_lastE  (by omega) (by omega) (hs)) (cwV 3 hts gX7_shareOfGuest_X7_lastTold rfl rfl rfl ⟨rfl, hd_X7_lastTold⟩ ⟨Nat.le_of_ble_eq_true rfl, Nat.le_of_ble_eq_true rfl⟩) hK hPc (va_recv hK.1 hPc (ci := 7) (q0 := 0) rfl rfl) rfl hl.1 rfl (Nat.le_of_ble_eq_true rfl) dX7_shareOfGuest_4 ⟨Nat.le_of_ble_eq_true rfl, Nat.le_of_ble_eq_true rfl⟩ (fun r_t1 hw_t1 => ?_)
  have hw_t1 : ∃ u_ : Int32, IsPick (okIn f_since d.toInt) keyL v_size.toInt u_ ∧ LasU (CC f_kinds f_firsts (5 : Int32) (0 : Int32)) f_seconds f_sizes u_ r_t1 := hw_t1
  obtain ⟨u_, hu, ht1⟩ := hw_t1
  refine lv_istore_n (lv' := [(2, .int r_t1), (0, .ref h), (1, .int d)]) hx hb dX7_shareOfGuest_7 rfl hl (by decide) rfl (fun ls hl => ?_)
  refine lv_iload_n hx hb dX7_shareOfGuest_8 rfl (lv_at hl 0 rfl) ?_
  refine lv_iconst (v := (-1)) hx hb dX7_shareOfGuest_9 (by decide) ?_
  refine lv_icmp_ne (tgt := 17) hx hb dX7_shareOfGuest_10 (by decide) (fun c_1 => ?_) (fun c_1 => ?_)
  · have tc_1 := t_neq c_1
    refine lv_iload_n hx hb dX7_shareOfGuest_17 rfl (lv_at hl 0 rfl) ?_
    exact hret r_t1 _ _ (show ∃ u_ : Int32, IsPick (okIn f_since d.toInt) keyL v_size.toInt u_ ∧ GueU (CC f_kinds f_firsts 5 0) f_seconds f_sizes u_ r_t1 from by first | exact ⟨u_, hu, r_t1, ht1, Or.inl ⟨by omega, by omega⟩⟩ | exact ⟨u_, hu, r_t1, ht1, Or.inr ⟨by omega, rfl⟩⟩) rfl dX7_shareOfGuest_18
  · have tc_1 := t_eq c_1
    refine lv_iconst (v := 3) hx hb dX7_shareOfGuest_13 (by decide) ?_
    refine lv_goto (tgt := 18) hx hb dX7_shareOfGuest_14 (by decide) ?_
    exact hret 3 _ _ (show ∃ u_ : Int32, IsPick (okIn f_since d.toInt) keyL v_size.toInt u_ ∧ GueU (CC f_kinds f_firsts 5 0) f_seconds f_sizes u_ (3 : Int32) from by first | exact ⟨u_, hu, r_t1, ht1, Or.inl ⟨by omega, by omega⟩⟩ | exact ⟨u_, hu, r_t1, ht1, Or.inr ⟨by omega, rfl⟩⟩) rfl dX7_shareOfGuest_18

theorem in_h_rankHeld_X3 : ∀ w ∈ wsX30, w ∈ wsX3_rankHeld := tl_X3_rankHeld_X3
set_option maxHeartbeats 8000000 in
set_option maxRecDepth 100000 in
theorem h_rankHeld {l : Launch} {D : va_G} {cI cZ cB : ClassId} {h a_falls a_ranks a_standsOn a_heldOn a_holder a_standing : Nat} {v_size : Int32} {f_ranks f_holder : Nat → Int32} {d : Int32} (hv_size0 : 0 ≤ v_size.toInt) (hv_size1 : v_size.toInt ≤ 40) (hh : 0 < v_size.toInt → InR f_holder 365 (-1) v_size.toInt) : Met l yX3_rankHeld wsX3_rankHeld ({ frames := 3, cells := 0, slots := 0, locals := 63 }) (RO D cI cZ cB [.ref h, .int d] [(h, .inr (3, [.ref a_falls, .ref a_ranks, .ref a_standsOn, .ref a_heldOn, .ref a_holder, .ref a_standing, .int v_size])), (a_ranks, .inl (cI, 40, .inl f_ranks)), (a_holder, .inl (cI, 365, .inl f_holder))]) (vp_Si (fun r : Int32 => ∃ hd_ : Int32, HelC v_size.toInt f_holder d hd_ ∧ RkR f_ranks hd_ r)) 0 0 (fun _ => False) := by
  refine ro_ret (cc := cX3_rankHeld) (maxL := 3) (ty := .int) (own := RX3) (by decide) rfl rfl (Nat.le_of_ble_eq_true rfl) ?_
  intro p e s m args below meth c Q S hret hP hK ls hl
  obtain ⟨hx, hb, hml, hown, hts⟩ := id S
  have hl : lv_has ls 3 [(0, .ref h), (1, .int d)] := hl
  have kkm1 : (-1 : Int32).toInt = -1 := by decide
  have kk0 : (0 : Int32).toInt = 0 := by decide
  have lk0 := hts (.fieldLink RX3 15 "AbbeyHours$Feasts" "ranks" "[I") (List.mem_cons_of_mem _ (List.mem_append_left _ (List.mem_of_getElem? (i := 0) rfl)))
  refine lv_aload_n hx hb dX3_rankHeld_0 rfl (lv_at hl 0 rfl) ?_
  refine lv_iload_n hx hb dX3_rankHeld_1 rfl (lv_at hl 1 rfl) ?_
  have hPc := hP.sub (ws' := [(h, .inr (3, [.ref a_falls, .ref a_ranks, .ref a_standsOn, .ref a_heldOn, .ref a_holder, .ref a_standing, .int v_size])), (a_holder, .inl (cI, 365, .inl f_holder))]) [0, 2] rfl
  refine roV (As := [.int d]) (rest := []) S (h_heldBy  (by omega) (by omega)) (cwV 1 hts gX3_rankHeld_X3_heldBy rfl rfl rfl ⟨rfl, hd_X3_heldBy⟩ ⟨Nat.le_of_ble_eq_true rfl, Nat.le_of_ble_eq_true rfl⟩) hK hPc (va_recv hK.1 hPc (ci := 3) (q0 := 0) rfl rfl) rfl hl.1 rfl (Nat.le_of_ble_eq_true rfl) dX3_rankHeld_2 ⟨Nat.le_of_ble_eq_true rfl, Nat.le_of_ble_eq_true rfl⟩ (fun r_hb hw_hb => ?_)
  have hw_hb : ((0 < v_size.toInt ∧ (0 ≤ d.toInt ∧ d.toInt ≤ 364)) → r_hb = f_holder d.toNatClampNeg) ∧ (¬ (0 < v_size.toInt ∧ (0 ≤ d.toInt ∧ d.toInt ≤ 364)) → r_hb.toInt = -1) := hw_hb
  have hbr := HelC.rg (hol := f_holder) hw_hb hh
  refine lv_istore_n (lv' := [(2, .int r_hb), (0, .ref h), (1, .int d)]) hx hb dX3_rankHeld_5 rfl hl (by decide) rfl (fun ls hl => ?_)
  refine lv_iload_n hx hb dX3_rankHeld_6 rfl (lv_at hl 0 rfl) ?_
  refine lv_iconst (v := (-1)) hx hb dX3_rankHeld_7 (by decide) ?_
  refine lv_icmp_ne (tgt := 15) hx hb dX3_rankHeld_8 (by decide) (fun c_1 => ?_) (fun c_1 => ?_)
  · have tc_1 := t_neq c_1
    refine lv_aload_n hx hb dX3_rankHeld_15 rfl (lv_at hl 1 rfl) ?_
    refine va_get (D := D) (ci := 3) (v := .ref a_ranks) (C := RX3) (T := TX3) (N := 7) hx hb hts in_h_rankHeld_X3 hown hK.1 hP 0 rfl rfl 1 (by decide) lk0 (fun _ h9 => h9) rfl dX3_rankHeld_16 ?_
    refine lv_iload_n hx hb dX3_rankHeld_19 rfl (lv_at hl 0 rfl) ?_
    refine va_iald hx hb hK.1 hP 1 0 rfl rfl (t_in (by omega) (by omega)) dX3_rankHeld_20 ?_
    refine lv_topi (fun yr eyr => ?_)
    exact hret yr _ _ (show ∃ hd_ : Int32, HelC v_size.toInt f_holder d hd_ ∧ RkR f_ranks hd_ yr from by first | exact ⟨r_hb, hw_hb, Or.inl ⟨by omega, by omega⟩⟩ | exact ⟨r_hb, hw_hb, Or.inr ⟨by omega, eyr⟩⟩) rfl dX3_rankHeld_21
  · have tc_1 := t_eq c_1
    refine lv_iconst (v := 0) hx hb dX3_rankHeld_11 (by decide) ?_
    refine lv_goto (tgt := 21) hx hb dX3_rankHeld_12 (by decide) ?_
    exact hret 0 _ _ (show ∃ hd_ : Int32, HelC v_size.toInt f_holder d hd_ ∧ RkR f_ranks hd_ (0 : Int32) from by first | exact ⟨r_hb, hw_hb, Or.inl ⟨by omega, by omega⟩⟩ | exact ⟨r_hb, hw_hb, Or.inr ⟨by omega, eyr⟩⟩) rfl dX3_rankHeld_21

theorem in_E_fast_X11 : ∀ w ∈ wsX110, w ∈ wsX11_fast := tl_X11_fast_X11
set_option maxHeartbeats 8000000 in
set_option maxRecDepth 100000 in
theorem E_fast {l : Launch} {D : va_G} {cI cZ cB : ClassId} {h a_bells a_feasts a_tape a_reader a_rules a_monks a_duties a_gifts a_figures fa_falls fa_ranks fa_standsOn fa_heldOn fa_holder fa_standing ra_since ra_sizes ra_kinds ra_firsts ra_seconds : Nat} {v_today v_stock v_guestHeads v_guestRanks v_faultPlace v_candlesInAll fv_size rv_size : Int32} {ff_ranks ff_holder rf_since rf_sizes rf_kinds rf_firsts rf_seconds : Nat → Int32} {d w : Int32} (hfv_size0 : 0 ≤ fv_size.toInt) (hfv_size1 : fv_size.toInt ≤ 40) (hh : 0 < fv_size.toInt → InR ff_holder 365 (-1) fv_size.toInt) (hrv_size0 : 0 ≤ rv_size.toInt) (hrv_size1 : rv_size.toInt ≤ 10) (hs : InR rf_sizes rv_size.toInt 0 17) : Met l yX11_fast wsX11_fast ({ frames := 4, cells := 0, slots := 0, locals := 85 }) (RO D cI cZ cB [.ref h, .int d, .int w] [(h, .inr (10, [.ref a_bells, .ref a_feasts, .ref a_tape, .ref a_reader, .ref a_rules, .ref a_monks, .ref a_duties, .ref a_gifts, .ref a_figures, .int v_today, .int v_stock, .int v_guestHeads, .int v_guestRanks, .int v_faultPlace, .int v_candlesInAll])), (a_feasts, .inr (3, [.ref fa_falls, .ref fa_ranks, .ref fa_standsOn, .ref fa_heldOn, .ref fa_holder, .ref fa_standing, .int fv_size])), (fa_ranks, .inl (cI, 40, .inl ff_ranks)), (fa_holder, .inl (cI, 365, .inl ff_holder)), (a_rules, .inr (7, [.ref ra_since, .ref ra_sizes, .ref ra_kinds, .ref ra_firsts, .ref ra_seconds, .int rv_size])), (ra_since, .inl (cI, 10, .inl rf_since)), (ra_sizes, .inl (cI, 10, .inl rf_sizes)), (ra_kinds, .inl (cI, 160, .inl rf_kinds)), (ra_firsts, .inl (cI, 160, .inl rf_firsts)), (ra_seconds, .inl (cI, 160, .inl rf_seconds))]) (vp_Si (fun r : Int32 => (¬ (0 ≤ d.toInt ∧ d.toInt ≤ 1094) ∧ r.toInt = -1) ∨ ((0 ≤ d.toInt ∧ d.toInt ≤ 1094) ∧ ∃ rk_ : Int32, (∃ hd_ : Int32, HelC fv_size.toInt ff_holder (rmF d 365) hd_ ∧ RkR ff_ranks hd_ rk_) ∧ FOut (IsPick (okIn rf_since d.toInt) keyL rv_size.toInt) (fun u_ => FasU 1 rf_sizes rf_kinds rf_firsts rf_seconds u_ d rk_) (fun u_ v_ => HedU (FasU 1 rf_sizes rf_kinds rf_firsts rf_seconds u_ d rk_) (CC rf_kinds rf_firsts 3 0) (CC rf_kinds rf_firsts 4 rk_) (CC rf_kinds rf_firsts 6 0) rf_seconds rf_sizes u_ rk_ v_) (fun u_ v_ => GueU (CC rf_kinds rf_firsts 5 0) rf_seconds rf_sizes u_ v_) w r))) 0 0 (fun _ => False) := by
  refine ro_ret (cc := cX11_fast) (maxL := 4) (ty := .int) (own := RX11) (by decide) rfl rfl (Nat.le_of_ble_eq_true rfl) ?_
  intro p e s m args below meth c Q S hret hP hK ls hl
  obtain ⟨hx, hb, hml, hown, hts⟩ := id S
  have hl : lv_has ls 4 [(0, .ref h), (1, .int d), (2, .int w)] := hl
  have kkm1 : (-1 : Int32).toInt = -1 := by decide
  have kk0 : (0 : Int32).toInt = 0 := by decide
  have kk1 : (1 : Int32).toInt = 1 := by decide
  have kk3 : (3 : Int32).toInt = 3 := by decide
  have kk365 : (365 : Int32).toInt = 365 := by decide
  have kk1094 : (1094 : Int32).toInt = 1094 := by decide
  have lk0 := hts (.fieldLink RX11 19 "AbbeyHours" "feasts" "LAbbeyHours$Feasts;") (mc_X11_fast_r1 _ (List.mem_of_getElem? (i := 0) rfl))
  have lk1 := hts (.fieldLink RX11 40 "AbbeyHours" "rules" "LAbbeyHours$Rules;") (mc_X11_fast_r1 _ (List.mem_of_getElem? (i := 1) rfl))
  refine lv_iload_n hx hb dX11_fast_0 rfl (lv_at hl 1 rfl) ?_
  have hPc := hP.sub (ws' := []) [] rfl
  refine roS (As := [.int d]) (rest := []) S (w_isDay  ) (va_cwS 1 hts gX11_fast_X11_isDay rfl rfl rfl hd_X11_isDay ⟨Nat.le_of_ble_eq_true rfl, Nat.le_of_ble_eq_true rfl⟩) hK hPc rfl hl.1 rfl (Nat.le_of_ble_eq_true rfl) dX11_fast_1 ⟨Nat.le_of_ble_eq_true rfl, Nat.le_of_ble_eq_true rfl⟩ (fun r_di hw_di => ?_)
  have hw_di : (r_di.toInt = 1 ∧ 0 ≤ d.toInt ∧ d.toInt ≤ 1094) ∨ (r_di.toInt = 0 ∧ (d.toInt < 0 ∨ 1094 < d.toInt)) := hw_di
  refine lv_if_ne (tgt := 9) hx hb dX11_fast_4 (by decide) (fun c_1 => ?_) (fun c_1 => ?_)
  · have tc_1 := t_neq c_1
    refine lv_aload_n hx hb dX11_fast_9 rfl (lv_at hl 0 rfl) ?_
    refine va_get (D := D) (ci := 10) (v := .ref a_feasts) (C := RX11) (T := TX11) (N := 15) hx hb hts in_E_fast_X11 hown hK.1 hP 0 rfl rfl 1 (by decide) lk0 (fun _ h9 => h9) rfl dX11_fast_10 ?_
    refine lv_iload_n hx hb dX11_fast_13 rfl (lv_at hl 1 rfl) ?_
    refine lv_sipush (v := 365) hx hb dX11_fast_14 (by decide) ?_
    refine lv_irem hx hb dX11_fast_17 (by decide) ?_
    refine lv_topi (fun mm emm => ?_)
    have emr : mm = rmF d 365 := emm
    have hPc := hP.sub (ws' := [(a_feasts, .inr (3, [.ref fa_falls, .ref fa_ranks, .ref fa_standsOn, .ref fa_heldOn, .ref fa_holder, .ref fa_standing, .int fv_size])), (fa_ranks, .inl (cI, 40, .inl ff_ranks)), (fa_holder, .inl (cI, 365, .inl ff_holder))]) [1, 2, 3] rfl
    refine roV (As := [.int mm]) (rest := []) S (h_rankHeld  (by omega) (by omega) (hh)) (cwV 1 hts gX11_fast_X3_rankHeld rfl rfl rfl ⟨rfl, hd_X3_rankHeld⟩ ⟨Nat.le_of_ble_eq_true rfl, Nat.le_of_ble_eq_true rfl⟩) hK hPc (va_recv hK.1 hPc (ci := 3) (q0 := 0) rfl rfl) rfl hl.1 rfl (Nat.le_of_ble_eq_true rfl) dX11_fast_18 ⟨Nat.le_of_ble_eq_true rfl, Nat.le_of_ble_eq_true rfl⟩ (fun r_rk hw_rk => ?_)
    have hw_rk : ∃ hd_ : Int32, HelC fv_size.toInt ff_holder mm hd_ ∧ RkR ff_ranks hd_ r_rk := hw_rk
    rw [emr] at hw_rk
    refine lv_istore_n (lv' := [(3, .int r_rk), (0, .ref h), (1, .int d), (2, .int w)]) hx hb dX11_fast_21 rfl hl (by decide) rfl (fun ls hl => ?_)
    refine lv_iload_n hx hb dX11_fast_22 rfl (lv_at hl 3 rfl) ?_
    have kqh_3 : (0 : Int32).toInt = 0 := by decide
    by_cases h_3 : w = 0
    · have th_3 := t_eq h_3
      refine lv_tableIn (off := 29) (tgt := 52) hx hb dX11_fast_23 (by rw [h_3]; decide) (by rw [h_3]; decide) (by rw [h_3]; rfl) (by decide) ?_
      refine lv_aload_n hx hb dX11_fast_52 rfl (lv_at hl 1 rfl) ?_
      refine va_get (D := D) (ci := 10) (v := .ref a_rules) (C := RX11) (T := TX11) (N := 15) hx hb hts in_E_fast_X11 hown hK.1 hP 0 rfl rfl 4 (by decide) lk1 (fun _ h9 => h9) rfl dX11_fast_53 ?_
      refine lv_iload_n hx hb dX11_fast_56 rfl (lv_at hl 2 rfl) ?_
      refine lv_iload_n hx hb dX11_fast_57 rfl (lv_at hl 0 rfl) ?_
      have hPc := hP.sub (ws' := [(a_rules, .inr (7, [.ref ra_since, .ref ra_sizes, .ref ra_kinds, .ref ra_firsts, .ref ra_seconds, .int rv_size])), (ra_since, .inl (cI, 10, .inl rf_since)), (ra_sizes, .inl (cI, 10, .inl rf_sizes)), (ra_kinds, .inl (cI, 160, .inl rf_kinds)), (ra_firsts, .inl (cI, 160, .inl rf_firsts)), (ra_seconds, .inl (cI, 160, .inl rf_seconds))]) [4, 5, 6, 7, 8, 9] rfl
      refine roV (As := [.int d, .int r_rk]) (rest := []) S (r_isFastE  (by omega) (by omega) (hs)) (cwV 2 hts gX11_fast_X7_isFast rfl rfl rfl ⟨rfl, hd_X7_isFast⟩ ⟨Nat.le_of_ble_eq_true rfl, Nat.le_of_ble_eq_true rfl⟩) hK hPc (va_recv hK.1 hPc (ci := 7) (q0 := 0) rfl rfl) rfl hl.1 rfl (Nat.le_of_ble_eq_true rfl) dX11_fast_58 ⟨Nat.le_of_ble_eq_true rfl, Nat.le_of_ble_eq_true rfl⟩ (fun r_fs hw_fs => ?_)
      have hw_fs : ∃ u_ : Int32, IsPick (okIn rf_since d.toInt) keyL rv_size.toInt u_ ∧ ((r_fs.toInt = 1 ∧ FasU 1 rf_sizes rf_kinds rf_firsts rf_seconds u_ d r_rk) ∨ (r_fs.toInt = 0 ∧ ¬ FasU 1 rf_sizes rf_kinds rf_firsts rf_seconds u_ d r_rk)) := hw_fs
      obtain ⟨u_, hu, hfs⟩ := hw_fs
      have h1_fs := if01 hfs
      refine lv_if_eq (tgt := 68) hx hb dX11_fast_61 (by decide) (fun c_4 => ?_) (fun c_4 => ?_)
      · have tc_4 := t_eq c_4
        refine lv_iconst (v := 0) hx hb dX11_fast_68 (by decide) ?_
        exact hret 0 _ _ (show (¬ (0 ≤ d.toInt ∧ d.toInt ≤ 1094) ∧ (0 : Int32).toInt = -1) ∨ ((0 ≤ d.toInt ∧ d.toInt ≤ 1094) ∧ ∃ rk_ : Int32, (∃ hd_ : Int32, HelC fv_size.toInt ff_holder (rmF d 365) hd_ ∧ RkR ff_ranks hd_ rk_) ∧ FOut (IsPick (okIn rf_since d.toInt) keyL rv_size.toInt) (fun u_ => FasU 1 rf_sizes rf_kinds rf_firsts rf_seconds u_ d rk_) (fun u_ v_ => HedU (FasU 1 rf_sizes rf_kinds rf_firsts rf_seconds u_ d rk_) (CC rf_kinds rf_firsts 3 0) (CC rf_kinds rf_firsts 4 rk_) (CC rf_kinds rf_firsts 6 0) rf_seconds rf_sizes u_ rk_ v_) (fun u_ v_ => GueU (CC rf_kinds rf_firsts 5 0) rf_seconds rf_sizes u_ v_) w (0 : Int32)) from by first | exact Or.inl ⟨by omega, by omega⟩ | exact Or.inr ⟨by omega, r_rk, hw_rk, Or.inl ⟨by omega, u_, hu, by first | exact Or.inl ⟨by omega, if1 hfs (by omega)⟩ | exact Or.inr ⟨by omega, if0 hfs (by omega)⟩⟩⟩ | exact Or.inr ⟨by omega, r_rk, hw_rk, Or.inr (Or.inl ⟨by omega, hw_hd⟩)⟩ | exact Or.inr ⟨by omega, r_rk, hw_rk, Or.inr (Or.inr (Or.inl ⟨by omega, hw_gu⟩))⟩ | exact Or.inr ⟨by omega, r_rk, hw_rk, Or.inr (Or.inr (Or.inr (Or.inl ⟨by omega, hw_nf⟩)))⟩ | exact Or.inr ⟨by omega, r_rk, hw_rk, Or.inr (Or.inr (Or.inr (Or.inr ⟨by omega, by omega⟩)))⟩) rfl dX11_fast_69
      · have tc_4 := t_neq c_4
        refine lv_iconst (v := 1) hx hb dX11_fast_64 (by decide) ?_
        refine lv_goto (tgt := 69) hx hb dX11_fast_65 (by decide) ?_
        exact hret 1 _ _ (show (¬ (0 ≤ d.toInt ∧ d.toInt ≤ 1094) ∧ (1 : Int32).toInt = -1) ∨ ((0 ≤ d.toInt ∧ d.toInt ≤ 1094) ∧ ∃ rk_ : Int32, (∃ hd_ : Int32, HelC fv_size.toInt ff_holder (rmF d 365) hd_ ∧ RkR ff_ranks hd_ rk_) ∧ FOut (IsPick (okIn rf_since d.toInt) keyL rv_size.toInt) (fun u_ => FasU 1 rf_sizes rf_kinds rf_firsts rf_seconds u_ d rk_) (fun u_ v_ => HedU (FasU 1 rf_sizes rf_kinds rf_firsts rf_seconds u_ d rk_) (CC rf_kinds rf_firsts 3 0) (CC rf_kinds rf_firsts 4 rk_) (CC rf_kinds rf_firsts 6 0) rf_seconds rf_sizes u_ rk_ v_) (fun u_ v_ => GueU (CC rf_kinds rf_firsts 5 0) rf_seconds rf_sizes u_ v_) w (1 : Int32)) from by first | exact Or.inl ⟨by omega, by omega⟩ | exact Or.inr ⟨by omega, r_rk, hw_rk, Or.inl ⟨by omega, u_, hu, by first | exact Or.inl ⟨by omega, if1 hfs (by omega)⟩ | exact Or.inr ⟨by omega, if0 hfs (by omega)⟩⟩⟩ | exact Or.inr ⟨by omega, r_rk, hw_rk, Or.inr (Or.inl ⟨by omega, hw_hd⟩)⟩ | exact Or.inr ⟨by omega, r_rk, hw_rk, Or.inr (Or.inr (Or.inl ⟨by omega, hw_gu⟩))⟩ | exact Or.inr ⟨by omega, r_rk, hw_rk, Or.inr (Or.inr (Or.inr (Or.inl ⟨by omega, hw_nf⟩)))⟩ | exact Or.inr ⟨by omega, r_rk, hw_rk, Or.inr (Or.inr (Or.inr (Or.inr ⟨by omega, by omega⟩)))⟩) rfl dX11_fast_69
    have th_3 := t_neq h_3
    have kqh_5 : (1 : Int32).toInt = 1 := by decide
    by_cases h_5 : w = 1
    · have th_5 := t_eq h_5
      refine lv_tableIn (off := 47) (tgt := 70) hx hb dX11_fast_23 (by rw [h_5]; decide) (by rw [h_5]; decide) (by rw [h_5]; rfl) (by decide) ?_
      refine lv_aload_n hx hb dX11_fast_70 rfl (lv_at hl 1 rfl) ?_
      refine va_get (D := D) (ci := 10) (v := .ref a_rules) (C := RX11) (T := TX11) (N := 15) hx hb hts in_E_fast_X11 hown hK.1 hP 0 rfl rfl 4 (by decide) lk1 (fun _ h9 => h9) rfl dX11_fast_71 ?_
      refine lv_iload_n hx hb dX11_fast_74 rfl (lv_at hl 2 rfl) ?_
      refine lv_iload_n hx hb dX11_fast_75 rfl (lv_at hl 0 rfl) ?_
      have hPc := hP.sub (ws' := [(a_rules, .inr (7, [.ref ra_since, .ref ra_sizes, .ref ra_kinds, .ref ra_firsts, .ref ra_seconds, .int rv_size])), (ra_since, .inl (cI, 10, .inl rf_since)), (ra_sizes, .inl (cI, 10, .inl rf_sizes)), (ra_kinds, .inl (cI, 160, .inl rf_kinds)), (ra_firsts, .inl (cI, 160, .inl rf_firsts)), (ra_seconds, .inl (cI, 160, .inl rf_seconds))]) [4, 5, 6, 7, 8, 9] rfl
      refine roV (As := [.int d, .int r_rk]) (rest := []) S (r_headE  (by omega) (by omega) (hs)) (cwV 2 hts gX11_fast_X7_shareOfHead rfl rfl rfl ⟨rfl, hd_X7_shareOfHead⟩ ⟨Nat.le_of_ble_eq_true rfl, Nat.le_of_ble_eq_true rfl⟩) hK hPc (va_recv hK.1 hPc (ci := 7) (q0 := 0) rfl rfl) rfl hl.1 rfl (Nat.le_of_ble_eq_true rfl) dX11_fast_76 ⟨Nat.le_of_ble_eq_true rfl, Nat.le_of_ble_eq_true rfl⟩ (fun r_hd hw_hd => ?_)
      have hw_hd : ∃ u_ : Int32, IsPick (okIn rf_since d.toInt) keyL rv_size.toInt u_ ∧ HedU (FasU 1 rf_sizes rf_kinds rf_firsts rf_seconds u_ d r_rk) (CC rf_kinds rf_firsts 3 0) (CC rf_kinds rf_firsts 4 r_rk) (CC rf_kinds rf_firsts 6 0) rf_seconds rf_sizes u_ r_rk r_hd := hw_hd
      exact hret r_hd _ _ (show (¬ (0 ≤ d.toInt ∧ d.toInt ≤ 1094) ∧ r_hd.toInt = -1) ∨ ((0 ≤ d.toInt ∧ d.toInt ≤ 1094) ∧ ∃ rk_ : Int32, (∃ hd_ : Int32, HelC fv_size.toInt ff_holder (rmF d 365) hd_ ∧ RkR ff_ranks hd_ rk_) ∧ FOut (IsPick (okIn rf_since d.toInt) keyL rv_size.toInt) (fun u_ => FasU 1 rf_sizes rf_kinds rf_firsts rf_seconds u_ d rk_) (fun u_ v_ => HedU (FasU 1 rf_sizes rf_kinds rf_firsts rf_seconds u_ d rk_) (CC rf_kinds rf_firsts 3 0) (CC rf_kinds rf_firsts 4 rk_) (CC rf_kinds rf_firsts 6 0) rf_seconds rf_sizes u_ rk_ v_) (fun u_ v_ => GueU (CC rf_kinds rf_firsts 5 0) rf_seconds rf_sizes u_ v_) w r_hd) from by first | exact Or.inl ⟨by omega, by omega⟩ | exact Or.inr ⟨by omega, r_rk, hw_rk, Or.inl ⟨by omega, u_, hu, by first | exact Or.inl ⟨by omega, if1 hfs (by omega)⟩ | exact Or.inr ⟨by omega, if0 hfs (by omega)⟩⟩⟩ | exact Or.inr ⟨by omega, r_rk, hw_rk, Or.inr (Or.inl ⟨by omega, hw_hd⟩)⟩ | exact Or.inr ⟨by omega, r_rk, hw_rk, Or.inr (Or.inr (Or.inl ⟨by omega, hw_gu⟩))⟩ | exact Or.inr ⟨by omega, r_rk, hw_rk, Or.inr (Or.inr (Or.inr (Or.inl ⟨by omega, hw_nf⟩)))⟩ | exact Or.inr ⟨by omega, r_rk, hw_rk, Or.inr (Or.inr (Or.inr (Or.inr ⟨by omega, by omega⟩)))⟩) rfl dX11_fast_79
    have th_5 := t_neq h_5
    have kqh_6 : (2 : Int32).toInt = 2 := by decide
    by_cases h_6 : w = 2
    · have th_6 := t_eq h_6
      refine lv_tableIn (off := 57) (tgt := 80) hx hb dX11_fast_23 (by rw [h_6]; decide) (by rw [h_6]; decide) (by rw [h_6]; rfl) (by decide) ?_
      refine lv_aload_n hx hb dX11_fast_80 rfl (lv_at hl 1 rfl) ?_
      refine va_get (D := D) (ci := 10) (v := .ref a_rules) (C := RX11) (T := TX11) (N := 15) hx hb hts in_E_fast_X11 hown hK.1 hP 0 rfl rfl 4 (by decide) lk1 (fun _ h9 => h9) rfl dX11_fast_81 ?_
      refine lv_iload_n hx hb dX11_fast_84 rfl (lv_at hl 2 rfl) ?_
      have hPc := hP.sub (ws' := [(a_rules, .inr (7, [.ref ra_since, .ref ra_sizes, .ref ra_kinds, .ref ra_firsts, .ref ra_seconds, .int rv_size])), (ra_since, .inl (cI, 10, .inl rf_since)), (ra_sizes, .inl (cI, 10, .inl rf_sizes)), (ra_kinds, .inl (cI, 160, .inl rf_kinds)), (ra_firsts, .inl (cI, 160, .inl rf_firsts)), (ra_seconds, .inl (cI, 160, .inl rf_seconds))]) [4, 5, 6, 7, 8, 9] rfl
      refine roV (As := [.int d]) (rest := []) S (r_guestE  (by omega) (by omega) (hs)) (cwV 1 hts gX11_fast_X7_shareOfGuest rfl rfl rfl ⟨rfl, hd_X7_shareOfGuest⟩ ⟨Nat.le_of_ble_eq_true rfl, Nat.le_of_ble_eq_true rfl⟩) hK hPc (va_recv hK.1 hPc (ci := 7) (q0 := 0) rfl rfl) rfl hl.1 rfl (Nat.le_of_ble_eq_true rfl) dX11_fast_85 ⟨Nat.le_of_ble_eq_true rfl, Nat.le_of_ble_eq_true rfl⟩ (fun r_gu hw_gu => ?_)
      have hw_gu : ∃ u_ : Int32, IsPick (okIn rf_since d.toInt) keyL rv_size.toInt u_ ∧ GueU (CC rf_kinds rf_firsts 5 0) rf_seconds rf_sizes u_ r_gu := hw_gu
      exact hret r_gu _ _ (show (¬ (0 ≤ d.toInt ∧ d.toInt ≤ 1094) ∧ r_gu.toInt = -1) ∨ ((0 ≤ d.toInt ∧ d.toInt ≤ 1094) ∧ ∃ rk_ : Int32, (∃ hd_ : Int32, HelC fv_size.toInt ff_holder (rmF d 365) hd_ ∧ RkR ff_ranks hd_ rk_) ∧ FOut (IsPick (okIn rf_since d.toInt) keyL rv_size.toInt) (fun u_ => FasU 1 rf_sizes rf_kinds rf_firsts rf_seconds u_ d rk_) (fun u_ v_ => HedU (FasU 1 rf_sizes rf_kinds rf_firsts rf_seconds u_ d rk_) (CC rf_kinds rf_firsts 3 0) (CC rf_kinds rf_firsts 4 rk_) (CC rf_kinds rf_firsts 6 0) rf_seconds rf_sizes u_ rk_ v_) (fun u_ v_ => GueU (CC rf_kinds rf_firsts 5 0) rf_seconds rf_sizes u_ v_) w r_gu) from by first | exact Or.inl ⟨by omega, by omega⟩ | exact Or.inr ⟨by omega, r_rk, hw_rk, Or.inl ⟨by omega, u_, hu, by first | exact Or.inl ⟨by omega, if1 hfs (by omega)⟩ | exact Or.inr ⟨by omega, if0 hfs (by omega)⟩⟩⟩ | exact Or.inr ⟨by omega, r_rk, hw_rk, Or.inr (Or.inl ⟨by omega, hw_hd⟩)⟩ | exact Or.inr ⟨by omega, r_rk, hw_rk, Or.inr (Or.inr (Or.inl ⟨by omega, hw_gu⟩))⟩ | exact Or.inr ⟨by omega, r_rk, hw_rk, Or.inr (Or.inr (Or.inr (Or.inl ⟨by omega, hw_nf⟩)))⟩ | exact Or.inr ⟨by omega, r_rk, hw_rk, Or.inr (Or.inr (Or.inr (Or.inr ⟨by omega, by omega⟩)))⟩) rfl dX11_fast_88
    have th_6 := t_neq h_6
    have kqh_7 : (3 : Int32).toInt = 3 := by decide
    by_cases h_7 : w = 3
    · have th_7 := t_eq h_7
      refine lv_tableIn (off := 66) (tgt := 89) hx hb dX11_fast_23 (by rw [h_7]; decide) (by rw [h_7]; decide) (by rw [h_7]; rfl) (by decide) ?_
      refine lv_aload_n hx hb dX11_fast_89 rfl (lv_at hl 1 rfl) ?_
      refine va_get (D := D) (ci := 10) (v := .ref a_rules) (C := RX11) (T := TX11) (N := 15) hx hb hts in_E_fast_X11 hown hK.1 hP 0 rfl rfl 4 (by decide) lk1 (fun _ h9 => h9) rfl dX11_fast_90 ?_
      refine lv_iload_n hx hb dX11_fast_93 rfl (lv_at hl 2 rfl) ?_
      have hPc := hP.sub (ws' := [(a_rules, .inr (7, [.ref ra_since, .ref ra_sizes, .ref ra_kinds, .ref ra_firsts, .ref ra_seconds, .int rv_size])), (ra_since, .inl (cI, 10, .inl rf_since))]) [4, 5] rfl
      refine roV (As := [.int d]) (rest := []) S (r_inForceE  (by omega) (by omega)) (cwV 1 hts gX11_fast_X7_inForce rfl rfl rfl ⟨rfl, hd_X7_inForce⟩ ⟨Nat.le_of_ble_eq_true rfl, Nat.le_of_ble_eq_true rfl⟩) hK hPc (va_recv hK.1 hPc (ci := 7) (q0 := 0) rfl rfl) rfl hl.1 rfl (Nat.le_of_ble_eq_true rfl) dX11_fast_94 ⟨Nat.le_of_ble_eq_true rfl, Nat.le_of_ble_eq_true rfl⟩ (fun r_nf hw_nf => ?_)
      have hw_nf : IsPick (okIn rf_since d.toInt) keyL rv_size.toInt r_nf := hw_nf
      exact hret r_nf _ _ (show (¬ (0 ≤ d.toInt ∧ d.toInt ≤ 1094) ∧ r_nf.toInt = -1) ∨ ((0 ≤ d.toInt ∧ d.toInt ≤ 1094) ∧ ∃ rk_ : Int32, (∃ hd_ : Int32, HelC fv_size.toInt ff_holder (rmF d 365) hd_ ∧ RkR ff_ranks hd_ rk_) ∧ FOut (IsPick (okIn rf_since d.toInt) keyL rv_size.toInt) (fun u_ => FasU 1 rf_sizes rf_kinds rf_firsts rf_seconds u_ d rk_) (fun u_ v_ => HedU (FasU 1 rf_sizes rf_kinds rf_firsts rf_seconds u_ d rk_) (CC rf_kinds rf_firsts 3 0) (CC rf_kinds rf_firsts 4 rk_) (CC rf_kinds rf_firsts 6 0) rf_seconds rf_sizes u_ rk_ v_) (fun u_ v_ => GueU (CC rf_kinds rf_firsts 5 0) rf_seconds rf_sizes u_ v_) w r_nf) from by first | exact Or.inl ⟨by omega, by omega⟩ | exact Or.inr ⟨by omega, r_rk, hw_rk, Or.inl ⟨by omega, u_, hu, by first | exact Or.inl ⟨by omega, if1 hfs (by omega)⟩ | exact Or.inr ⟨by omega, if0 hfs (by omega)⟩⟩⟩ | exact Or.inr ⟨by omega, r_rk, hw_rk, Or.inr (Or.inl ⟨by omega, hw_hd⟩)⟩ | exact Or.inr ⟨by omega, r_rk, hw_rk, Or.inr (Or.inr (Or.inl ⟨by omega, hw_gu⟩))⟩ | exact Or.inr ⟨by omega, r_rk, hw_rk, Or.inr (Or.inr (Or.inr (Or.inl ⟨by omega, hw_nf⟩)))⟩ | exact Or.inr ⟨by omega, r_rk, hw_rk, Or.inr (Or.inr (Or.inr (Or.inr ⟨by omega, by omega⟩)))⟩) rfl dX11_fast_97
    have th_7 := t_neq h_7
    refine lv_tableOut (tgt := 98) hx hb dX11_fast_23 (by omega) (by decide) ?_
    refine lv_iconst (v := (-1)) hx hb dX11_fast_98 (by decide) ?_
    exact hret (-1) _ _ (show (¬ (0 ≤ d.toInt ∧ d.toInt ≤ 1094) ∧ (-1 : Int32).toInt = -1) ∨ ((0 ≤ d.toInt ∧ d.toInt ≤ 1094) ∧ ∃ rk_ : Int32, (∃ hd_ : Int32, HelC fv_size.toInt ff_holder (rmF d 365) hd_ ∧ RkR ff_ranks hd_ rk_) ∧ FOut (IsPick (okIn rf_since d.toInt) keyL rv_size.toInt) (fun u_ => FasU 1 rf_sizes rf_kinds rf_firsts rf_seconds u_ d rk_) (fun u_ v_ => HedU (FasU 1 rf_sizes rf_kinds rf_firsts rf_seconds u_ d rk_) (CC rf_kinds rf_firsts 3 0) (CC rf_kinds rf_firsts 4 rk_) (CC rf_kinds rf_firsts 6 0) rf_seconds rf_sizes u_ rk_ v_) (fun u_ v_ => GueU (CC rf_kinds rf_firsts 5 0) rf_seconds rf_sizes u_ v_) w (-1 : Int32)) from by first | exact Or.inl ⟨by omega, by omega⟩ | exact Or.inr ⟨by omega, r_rk, hw_rk, Or.inl ⟨by omega, u_, hu, by first | exact Or.inl ⟨by omega, if1 hfs (by omega)⟩ | exact Or.inr ⟨by omega, if0 hfs (by omega)⟩⟩⟩ | exact Or.inr ⟨by omega, r_rk, hw_rk, Or.inr (Or.inl ⟨by omega, hw_hd⟩)⟩ | exact Or.inr ⟨by omega, r_rk, hw_rk, Or.inr (Or.inr (Or.inl ⟨by omega, hw_gu⟩))⟩ | exact Or.inr ⟨by omega, r_rk, hw_rk, Or.inr (Or.inr (Or.inr (Or.inl ⟨by omega, hw_nf⟩)))⟩ | exact Or.inr ⟨by omega, r_rk, hw_rk, Or.inr (Or.inr (Or.inr (Or.inr ⟨by omega, by omega⟩)))⟩) rfl dX11_fast_99
  · have tc_1 := t_eq c_1
    refine lv_iconst (v := (-1)) hx hb dX11_fast_7 (by decide) ?_
    exact hret (-1) _ _ (show (¬ (0 ≤ d.toInt ∧ d.toInt ≤ 1094) ∧ (-1 : Int32).toInt = -1) ∨ ((0 ≤ d.toInt ∧ d.toInt ≤ 1094) ∧ ∃ rk_ : Int32, (∃ hd_ : Int32, HelC fv_size.toInt ff_holder (rmF d 365) hd_ ∧ RkR ff_ranks hd_ rk_) ∧ FOut (IsPick (okIn rf_since d.toInt) keyL rv_size.toInt) (fun u_ => FasU 1 rf_sizes rf_kinds rf_firsts rf_seconds u_ d rk_) (fun u_ v_ => HedU (FasU 1 rf_sizes rf_kinds rf_firsts rf_seconds u_ d rk_) (CC rf_kinds rf_firsts 3 0) (CC rf_kinds rf_firsts 4 rk_) (CC rf_kinds rf_firsts 6 0) rf_seconds rf_sizes u_ rk_ v_) (fun u_ v_ => GueU (CC rf_kinds rf_firsts 5 0) rf_seconds rf_sizes u_ v_) w (-1 : Int32)) from by first | exact Or.inl ⟨by omega, by omega⟩ | exact Or.inr ⟨by omega, r_rk, hw_rk, Or.inl ⟨by omega, u_, hu, by first | exact Or.inl ⟨by omega, if1 hfs (by omega)⟩ | exact Or.inr ⟨by omega, if0 hfs (by omega)⟩⟩⟩ | exact Or.inr ⟨by omega, r_rk, hw_rk, Or.inr (Or.inl ⟨by omega, hw_hd⟩)⟩ | exact Or.inr ⟨by omega, r_rk, hw_rk, Or.inr (Or.inr (Or.inl ⟨by omega, hw_gu⟩))⟩ | exact Or.inr ⟨by omega, r_rk, hw_rk, Or.inr (Or.inr (Or.inr (Or.inl ⟨by omega, hw_nf⟩)))⟩ | exact Or.inr ⟨by omega, r_rk, hw_rk, Or.inr (Or.inr (Or.inr (Or.inr ⟨by omega, by omega⟩)))⟩) rfl dX11_fast_8

