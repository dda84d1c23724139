theorem in_p_put_X9 : ∀ w ∈ wsX90, w ∈ wsX9_put := tl_X9_put_X9
set_option maxHeartbeats 8000000 in
set_option maxRecDepth 100000 in
theorem p_put {l : Launch} {D : va_G} {cI cZ cB : ClassId} {sz : Nat} {h a_bytes : Nat} {v_length : Int32} {f_bytes : Nat → Int32} {x : Int32} (hl0 : 0 ≤ v_length.toInt) (hl1 : v_length.toInt ≤ 596) : Met l yX9_put wsX9_put ({ frames := 0, cells := 0, slots := 0, locals := 0 }) (RW D cI cZ cB [.ref h, .int x] sz [(h, .inr (8, [.ref a_bytes, .int v_length])), (a_bytes, .inl (cB, 600, .inl f_bytes))]) (va_Qv (fun u : Int32 × (Nat → Int32) => u.2 = fourF f_bytes v_length x ∧ u.1 = l4F v_length) (BW D [(h, .inr (8, [.ref a_bytes, .int v_length])), (a_bytes, .inl (cB, 600, .inl f_bytes))] sz (fun u : Int32 × (Nat → Int32) => [(h, .inr (8, [.ref a_bytes, .int u.1])), (a_bytes, .inl (cB, 600, .inl u.2))])) (va_A [(h, .inr (8, [.ref a_bytes, .int v_length])), (a_bytes, .inl (cB, 600, .inl f_bytes))] sz)) 0 (0) (va_A [(h, .inr (8, [.ref a_bytes, .int v_length])), (a_bytes, .inl (cB, 600, .inl f_bytes))] sz) := by
  refine rw_retv (cc := cX9_put) (maxL := 3) (own := RX9) (by decide) rfl rfl (Nat.le_of_ble_eq_true rfl) ?_
  intro p e s m args below meth c Q A S hin hret hP hK hD hA hS ls hl
  obtain ⟨hx, hb, hml, hown, hts⟩ := id S
  have hl : lv_has ls 3 [(0, .ref h), (1, .int x)] := hl
  have kkm8 : (-8 : Int32).toInt = -8 := by decide
  have kk0 : (0 : Int32).toInt = 0 := by decide
  have kk1 : (1 : Int32).toInt = 1 := by decide
  have kk24 : (24 : Int32).toInt = 24 := by decide
  have kk600 : (600 : Int32).toInt = 600 := by decide
  have lk0 := hts (.fieldLink RX9 13 "AbbeyHours$Tape" "length" "I") (List.mem_cons_of_mem _ (List.mem_append_left _ (List.mem_of_getElem? (i := 0) rfl)))
  have lk1 := hts (.fieldLink RX9 9 "AbbeyHours$Tape" "bytes" "[B") (List.mem_cons_of_mem _ (List.mem_append_left _ (List.mem_of_getElem? (i := 1) rfl)))
  refine lv_bipush (v := 24) hx hb dX9_put_0 (by decide) ?_
  refine lv_istore_n (lv' := [(2, .int 24), (0, .ref h), (1, .int x)]) hx hb dX9_put_2 rfl hl (by decide) rfl (fun ls hl => ?_)
  refine lv_iload_n hx hb dX9_put_3 rfl (lv_at hl 0 rfl) ?_
  refine lv_if_lt (tgt := 46) hx hb dX9_put_4 (by decide) (fun c_1 => ?_) (fun c_1 => ?_)
  · exact absurd c_1 (by decide)
  · have tc_1 := t_nlt c_1
    refine lv_aload_n hx hb dX9_put_7 rfl (lv_at hl 1 rfl) ?_
    refine va_get (D := D) (ci := 8) (v := .int v_length) (C := RX9) (T := TX9) (N := 2) hx hb hts in_p_put_X9 hown hK.1 hP 0 rfl rfl 1 (by decide) lk0 (fun _ h9 => h9) rfl dX9_put_8 ?_
    refine lv_sipush (v := 600) hx hb dX9_put_11 (by decide) ?_
    refine lv_icmp_ge (tgt := 40) hx hb dX9_put_14 (by decide) (fun c_2 => ?_) (fun c_2 => ?_)
    · have tc_2 := t_le c_2
      exfalso; omega
    · have tc_2 := t_nle c_2
      refine lv_aload_n hx hb dX9_put_17 rfl (lv_at hl 1 rfl) ?_
      refine va_get (D := D) (ci := 8) (v := .ref a_bytes) (C := RX9) (T := TX9) (N := 2) hx hb hts in_p_put_X9 hown hK.1 hP 0 rfl rfl 0 (by decide) lk1 (fun _ h9 => h9) rfl dX9_put_18 ?_
      refine lv_aload_n hx hb dX9_put_21 rfl (lv_at hl 1 rfl) ?_
      refine va_get (D := D) (ci := 8) (v := .int v_length) (C := RX9) (T := TX9) (N := 2) hx hb hts in_p_put_X9 hown hK.1 hP 0 rfl rfl 1 (by decide) lk0 (fun _ h9 => h9) rfl dX9_put_22 ?_
      refine lv_iload_n hx hb dX9_put_25 rfl (lv_at hl 2 rfl) ?_
      refine lv_iload_n hx hb dX9_put_26 rfl (lv_at hl 0 rfl) ?_
      refine lv_ishr hx hb dX9_put_27 ?_
      refine lv_topi (fun x_3 ex_3 => ?_)
      refine lv_i2b hx hb dX9_put_28 rfl ?_
      refine lv_topi (fun x_4 ex_4 => ?_)
      refine va_bast hx hb hK.1 hP hD hS 1 2 rfl rfl (t_in (by omega) (by omega)) dX9_put_29 (fun H locs hP hD hS => ?_)
      obtain ⟨g_5, eg_5⟩ : ∃ z : Nat → Int32, z = upd f_bytes ((v_length : Int32).toNatClampNeg) (vp_nar .byte x_4) := ⟨_, rfl⟩
      rw [← eg_5] at hP hD
      have hP : va_P D vwCl [(h, .inr (8, [.ref a_bytes, .int v_length])), (a_bytes, .inl (cB, 600, .inl g_5))] H := hP
      have hD := asD hP hD
      refine lv_aload_n hx hb dX9_put_30 rfl (lv_at hl 1 rfl) ?_
      refine lv_dup hx hb dX9_put_31 rfl ?_
      refine va_get (D := D) (ci := 8) (v := .int v_length) (C := RX9) (T := TX9) (N := 2) hx hb hts in_p_put_X9 hown hK.1 hP 0 rfl rfl 1 (by decide) lk0 (fun _ h9 => h9) rfl dX9_put_32 ?_
      refine lv_iconst (v := 1) hx hb dX9_put_35 (by decide) ?_
      refine lv_iadd hx hb dX9_put_36 ?_
      refine lv_topi (fun x_6 ex_6 => ?_)
      first | have tx_6 := t_add ex_6 (by omega) (by omega) | skip
      refine va_put (D := D) (ci := 8) (v := .int x_6) (ty := .int) (C := RX9) (T := TX9) (N := 2) hx hb hts in_p_put_X9 tyX9 tyX9_ok nmX9 hown hK.1 hP hD hS 0 rfl rfl 1 (by decide) lk0 (fun _ h9 => h9) rfl (by decide +kernel) rfl rfl (Nat.le_of_ble_eq_true rfl) dX9_put_37 (fun H locs hP hD hS => ?_)
      have hP : va_P D vwCl [(h, .inr (8, [.ref a_bytes, .int x_6])), (a_bytes, .inl (cB, 600, .inl g_5))] H := hP
      have hD := asD hP hD
      obtain ⟨x_7, ex_7⟩ : ∃ y : Int32, y = 24 + (-8) := ⟨_, rfl⟩
      obtain rfl : x_7 = 16 := by rw [ex_7]; decide
      refine lv_iinc (v := 16) (lv' := [(2, .int 16), (0, .ref h), (1, .int x)]) hx hb dX9_put_40 hl (k := 0) rfl (by decide) (by decide) rfl (fun ls hl => ?_)
      refine lv_goto (tgt := 3) hx hb dX9_put_43 (by decide) ?_
      refine lv_iload_n hx hb dX9_put_3 rfl (lv_at hl 0 rfl) ?_
      refine lv_if_lt (tgt := 46) hx hb dX9_put_4 (by decide) (fun c_8 => ?_) (fun c_8 => ?_)
      · exact absurd c_8 (by decide)
      · have tc_8 := t_nlt c_8
        refine lv_aload_n hx hb dX9_put_7 rfl (lv_at hl 1 rfl) ?_
        refine va_get (D := D) (ci := 8) (v := .int x_6) (C := RX9) (T := TX9) (N := 2) hx hb hts in_p_put_X9 hown hK.1 hP 0 rfl rfl 1 (by decide) lk0 (fun _ h9 => h9) rfl dX9_put_8 ?_
        refine lv_sipush (v := 600) hx hb dX9_put_11 (by decide) ?_
        refine lv_icmp_ge (tgt := 40) hx hb dX9_put_14 (by decide) (fun c_9 => ?_) (fun c_9 => ?_)
        · have tc_9 := t_le c_9
          exfalso; omega
        · have tc_9 := t_nle c_9
          refine lv_aload_n hx hb dX9_put_17 rfl (lv_at hl 1 rfl) ?_
          refine va_get (D := D) (ci := 8) (v := .ref a_bytes) (C := RX9) (T := TX9) (N := 2) hx hb hts in_p_put_X9 hown hK.1 hP 0 rfl rfl 0 (by decide) lk1 (fun _ h9 => h9) rfl dX9_put_18 ?_
          refine lv_aload_n hx hb dX9_put_21 rfl (lv_at hl 1 rfl) ?_
          refine va_get (D := D) (ci := 8) (v := .int x_6) (C := RX9) (T := TX9) (N := 2) hx hb hts in_p_put_X9 hown hK.1 hP 0 rfl rfl 1 (by decide) lk0 (fun _ h9 => h9) rfl dX9_put_22 ?_
          refine lv_iload_n hx hb dX9_put_25 rfl (lv_at hl 2 rfl) ?_
          refine lv_iload_n hx hb dX9_put_26 rfl (lv_at hl 0 rfl) ?_
          refine lv_ishr hx hb dX9_put_27 ?_
          refine lv_topi (fun x_10 ex_10 => ?_)
          refine lv_i2b hx hb dX9_put_28 rfl ?_
          refine lv_topi (fun x_11 ex_11 => ?_)
          refine va_bast hx hb hK.1 hP hD hS 1 2 rfl rfl (t_in (by omega) (by omega)) dX9_put_29 (fun H locs hP hD hS => ?_)
          obtain ⟨g_12, eg_12⟩ : ∃ z : Nat → Int32, z = upd g_5 ((x_6 : Int32).toNatClampNeg) (vp_nar .byte x_11) := ⟨_, rfl⟩
          rw [← eg_12] at hP hD
          have hP : va_P D vwCl [(h, .inr (8, [.ref a_bytes, .int x_6])), (a_bytes, .inl (cB, 600, .inl g_12))] H := hP
          have hD := asD hP hD
          refine lv_aload_n hx hb dX9_put_30 rfl (lv_at hl 1 rfl) ?_
          refine lv_dup hx hb dX9_put_31 rfl ?_
          refine va_get (D := D) (ci := 8) (v := .int x_6) (C := RX9) (T := TX9) (N := 2) hx hb hts in_p_put_X9 hown hK.1 hP 0 rfl rfl 1 (by decide) lk0 (fun _ h9 => h9) rfl dX9_put_32 ?_
          refine lv_iconst (v := 1) hx hb dX9_put_35 (by decide) ?_
          refine lv_iadd hx hb dX9_put_36 ?_
          refine lv_topi (fun x_13 ex_13 => ?_)
          first | have tx_13 := t_add ex_13 (by omega) (by omega) | skip
          refine va_put (D := D) (ci := 8) (v := .int x_13) (ty := .int) (C := RX9) (T := TX9) (N := 2) hx hb hts in_p_put_X9 tyX9 tyX9_ok nmX9 hown hK.1 hP hD hS 0 rfl rfl 1 (by decide) lk0 (fun _ h9 => h9) rfl (by decide +kernel) rfl rfl (Nat.le_of_ble_eq_true rfl) dX9_put_37 (fun H locs hP hD hS => ?_)
          have hP : va_P D vwCl [(h, .inr (8, [.ref a_bytes, .int x_13])), (a_bytes, .inl (cB, 600, .inl g_12))] H := hP
          have hD := asD hP hD
          obtain ⟨x_14, ex_14⟩ : ∃ y : Int32, y = 16 + (-8) := ⟨_, rfl⟩
          obtain rfl : x_14 = 8 := by rw [ex_14]; decide
          refine lv_iinc (v := 8) (lv' := [(2, .int 8), (0, .ref h), (1, .int x)]) hx hb dX9_put_40 hl (k := 0) rfl (by decide) (by decide) rfl (fun ls hl => ?_)
          refine lv_goto (tgt := 3) hx hb dX9_put_43 (by decide) ?_
          refine lv_iload_n hx hb dX9_put_3 rfl (lv_at hl 0 rfl) ?_
          refine lv_if_lt (tgt := 46) hx hb dX9_put_4 (by decide) (fun c_15 => ?_) (fun c_15 => ?_)
          · exact absurd c_15 (by decide)
          · have tc_15 := t_nlt c_15
            refine lv_aload_n hx hb dX9_put_7 rfl (lv_at hl 1 rfl) ?_
            refine va_get (D := D) (ci := 8) (v := .int x_13) (C := RX9) (T := TX9) (N := 2) hx hb hts in_p_put_X9 hown hK.1 hP 0 rfl rfl 1 (by decide) lk0 (fun _ h9 => h9) rfl dX9_put_8 ?_
            refine lv_sipush (v := 600) hx hb dX9_put_11 (by decide) ?_
            refine lv_icmp_ge (tgt := 40) hx hb dX9_put_14 (by decide) (fun c_16 => ?_) (fun c_16 => ?_)
            · have tc_16 := t_le c_16
              exfalso; omega
            · have tc_16 := t_nle c_16
              refine lv_aload_n hx hb dX9_put_17 rfl (lv_at hl 1 rfl) ?_
              refine va_get (D := D) (ci := 8) (v := .ref a_bytes) (C := RX9) (T := TX9) (N := 2) hx hb hts in_p_put_X9 hown hK.1 hP 0 rfl rfl 0 (by decide) lk1 (fun _ h9 => h9) rfl dX9_put_18 ?_
              refine lv_aload_n hx hb dX9_put_21 rfl (lv_at hl 1 rfl) ?_
              refine va_get (D := D) (ci := 8) (v := .int x_13) (C := RX9) (T := TX9) (N := 2) hx hb hts in_p_put_X9 hown hK.1 hP 0 rfl rfl 1 (by decide) lk0 (fun _ h9 => h9) rfl dX9_put_22 ?_
              refine lv_iload_n hx hb dX9_put_25 rfl (lv_at hl 2 rfl) ?_
              refine lv_iload_n hx hb dX9_put_26 rfl (lv_at hl 0 rfl) ?_
              refine lv_ishr hx hb dX9_put_27 ?_
              refine lv_topi (fun x_17 ex_17 => ?_)
              refine lv_i2b hx hb dX9_put_28 rfl ?_
              refine lv_topi (fun x_18 ex_18 => ?_)
              refine va_bast hx hb hK.1 hP hD hS 1 2 rfl rfl (t_in (by omega) (by omega)) dX9_put_29 (fun H locs hP hD hS => ?_)
              obtain ⟨g_19, eg_19⟩ : ∃ z : Nat → Int32, z = upd g_12 ((x_13 : Int32).toNatClampNeg) (vp_nar .byte x_18) := ⟨_, rfl⟩
              rw [← eg_19] at hP hD
              have hP : va_P D vwCl [(h, .inr (8, [.ref a_bytes, .int x_13])), (a_bytes, .inl (cB, 600, .inl g_19))] H := hP
              have hD := asD hP hD
              refine lv_aload_n hx hb dX9_put_30 rfl (lv_at hl 1 rfl) ?_
              refine lv_dup hx hb dX9_put_31 rfl ?_
              refine va_get (D := D) (ci := 8) (v := .int x_13) (C := RX9) (T := TX9) (N := 2) hx hb hts in_p_put_X9 hown hK.1 hP 0 rfl rfl 1 (by decide) lk0 (fun _ h9 => h9) rfl dX9_put_32 ?_
              refine lv_iconst (v := 1) hx hb dX9_put_35 (by decide) ?_
              refine lv_iadd hx hb dX9_put_36 ?_
              refine lv_topi (fun x_20 ex_20 => ?_)
              first | have tx_20 := t_add ex_20 (by omega) (by omega) | skip
              refine va_put (D := D) (ci := 8) (v := .int x_20) (ty := .int) (C := RX9) (T := TX9) (N := 2) hx hb hts in_p_put_X9 tyX9 tyX9_ok nmX9 hown hK.1 hP hD hS 0 rfl rfl 1 (by decide) lk0 (fun _ h9 => h9) rfl (by decide +kernel) rfl rfl (Nat.le_of_ble_eq_true rfl) dX9_put_37 (fun H locs hP hD hS => ?_)
              have hP : va_P D vwCl [(h, .inr (8, [.ref a_bytes, .int x_20])), (a_bytes, .inl (cB, 600, .inl g_19))] H := hP
              have hD := asD hP hD
              obtain ⟨x_21, ex_21⟩ : ∃ y : Int32, y = 8 + (-8) := ⟨_, rfl⟩
              obtain rfl : x_21 = 0 := by rw [ex_21]; decide
              refine lv_iinc (v := 0) (lv' := [(2, .int 0), (0, .ref h), (1, .int x)]) hx hb dX9_put_40 hl (k := 0) rfl (by decide) (by decide) rfl (fun ls hl => ?_)
              refine lv_goto (tgt := 3) hx hb dX9_put_43 (by decide) ?_
              refine lv_iload_n hx hb dX9_put_3 rfl (lv_at hl 0 rfl) ?_
              refine lv_if_lt (tgt := 46) hx hb dX9_put_4 (by decide) (fun c_22 => ?_) (fun c_22 => ?_)
              · exact absurd c_22 (by decide)
              · have tc_22 := t_nlt c_22
                refine lv_aload_n hx hb dX9_put_7 rfl (lv_at hl 1 rfl) ?_
                refine va_get (D := D) (ci := 8) (v := .int x_20) (C := RX9) (T := TX9) (N := 2) hx hb hts in_p_put_X9 hown hK.1 hP 0 rfl rfl 1 (by decide) lk0 (fun _ h9 => h9) rfl dX9_put_8 ?_
                refine lv_sipush (v := 600) hx hb dX9_put_11 (by decide) ?_
                refine lv_icmp_ge (tgt := 40) hx hb dX9_put_14 (by decide) (fun c_23 => ?_) (fun c_23 => ?_)
                · have tc_23 := t_le c_23
                  exfalso; omega
                · have tc_23 := t_nle c_23
                  refine lv_aload_n hx hb dX9_put_17 rfl (lv_at hl 1 rfl) ?_
                  refine va_get (D := D) (ci := 8) (v := .ref a_bytes) (C := RX9) (T := TX9) (N := 2) hx hb hts in_p_put_X9 hown hK.1 hP 0 rfl rfl 0 (by decide) lk1 (fun _ h9 => h9) rfl dX9_put_18 ?_
                  refine lv_aload_n hx hb dX9_put_21 rfl (lv_at hl 1 rfl) ?_
                  refine va_get (D := D) (ci := 8) (v := .int x_20) (C := RX9) (T := TX9) (N := 2) hx hb hts in_p_put_X9 hown hK.1 hP 0 rfl rfl 1 (by decide) lk0 (fun _ h9 => h9) rfl dX9_put_22 ?_
                  refine lv_iload_n hx hb dX9_put_25 rfl (lv_at hl 2 rfl) ?_
                  refine lv_iload_n hx hb dX9_put_26 rfl (lv_at hl 0 rfl) ?_
                  refine lv_ishr hx hb dX9_put_27 ?_
                  refine lv_topi (fun x_24 ex_24 => ?_)
                  refine lv_i2b hx hb dX9_put_28 rfl ?_
                  refine lv_topi (fun x_25 ex_25 => ?_)
                  refine va_bast hx hb hK.1 hP hD hS 1 2 rfl rfl (t_in (by omega) (by omega)) dX9_put_29 (fun H locs hP hD hS => ?_)
                  obtain ⟨g_26, eg_26⟩ : ∃ z : Nat → Int32, z = upd g_19 ((x_20 : Int32).toNatClampNeg) (vp_nar .byte x_25) := ⟨_, rfl⟩
                  rw [← eg_26] at hP hD
                  have hP : va_P D vwCl [(h, .inr (8, [.ref a_bytes, .int x_20])), (a_bytes, .inl (cB, 600, .inl g_26))] H := hP
                  have hD := asD hP hD
                  refine lv_aload_n hx hb dX9_put_30 rfl (lv_at hl 1 rfl) ?_
                  refine lv_dup hx hb dX9_put_31 rfl ?_
                  refine va_get (D := D) (ci := 8) (v := .int x_20) (C := RX9) (T := TX9) (N := 2) hx hb hts in_p_put_X9 hown hK.1 hP 0 rfl rfl 1 (by decide) lk0 (fun _ h9 => h9) rfl dX9_put_32 ?_
                  refine lv_iconst (v := 1) hx hb dX9_put_35 (by decide) ?_
                  refine lv_iadd hx hb dX9_put_36 ?_
                  refine lv_topi (fun x_27 ex_27 => ?_)
                  first | have tx_27 := t_add ex_27 (by omega) (by omega) | skip
                  refine va_put (D := D) (ci := 8) (v := .int x_27) (ty := .int) (C := RX9) (T := TX9) (N := 2) hx hb hts in_p_put_X9 tyX9 tyX9_ok nmX9 hown hK.1 hP hD hS 0 rfl rfl 1 (by decide) lk0 (fun _ h9 => h9) rfl (by decide +kernel) rfl rfl (Nat.le_of_ble_eq_true rfl) dX9_put_37 (fun H locs hP hD hS => ?_)
                  have hP : va_P D vwCl [(h, .inr (8, [.ref a_bytes, .int x_27])), (a_bytes, .inl (cB, 600, .inl g_26))] H := hP
                  have hD := asD hP hD
                  obtain ⟨x_28, ex_28⟩ : ∃ y : Int32, y = 0 + (-8) := ⟨_, rfl⟩
                  obtain rfl : x_28 = (-8) := by rw [ex_28]; decide
                  refine lv_iinc (v := (-8)) (lv' := [(2, .int (-8)), (0, .ref h), (1, .int x)]) hx hb dX9_put_40 hl (k := 0) rfl (by decide) (by decide) rfl (fun ls hl => ?_)
                  refine lv_goto (tgt := 3) hx hb dX9_put_43 (by decide) ?_
                  refine lv_iload_n hx hb dX9_put_3 rfl (lv_at hl 0 rfl) ?_
                  refine lv_if_lt (tgt := 46) hx hb dX9_put_4 (by decide) (fun c_29 => ?_) (fun c_29 => ?_)
                  · have tc_29 := t_lt c_29
                    exact hret (x_27, g_26) _ _ _ _ (show g_26 = fourF f_bytes v_length x ∧ x_27 = l4F v_length from ⟨by subst_vars; rfl, by subst_vars; rfl⟩) (hP.sub [0, 1] rfl) (hD.sub [0, 1] (by decide +kernel) rfl) hS dX9_put_46
                  · exact absurd c_29 (by decide)

theorem in_p_four_X12 : ∀ w ∈ wsX120, w ∈ wsX12_four := tl_X12_four_X12
set_option maxHeartbeats 8000000 in
set_option maxRecDepth 100000 in
theorem p_four {l : Launch} {D : va_G} {cI cZ cB : ClassId} {sz : Nat} {h a_isPriest a_bars a_joined a_turns a_awayMonk a_awayFrom a_awayTo a_feastDay a_rank a_isWeekly a_isDouble a_giftDay a_giftFrom a_owed a_said a_spared a_leaveGift a_leaveFrom a_leaveTo a_lateDay a_lateOffice a_lateBy a_guests a_who a_used a_lacks a_candles a_masses a_owing a_heldOn a_waits a_tape a_text a_statements a_taken a_sort a_first a_second : Nat} {v_today v_monks v_aways v_feasts v_gifts v_leaves v_lates v_store v_allCandles v_taped v_size v_at v_fault v_rules v_wordEnd v_number : Int32} {f_tape : Nat → Int32} {x : Int32} (hl0 : 0 ≤ v_taped.toInt) (hl1 : v_taped.toInt ≤ 596) : Met l yX12_four wsX12_four ({ frames := 0, cells := 0, slots := 0, locals := 0 }) (RW D cI cZ cB [.ref h, .int x] sz [(h, .inr (11, [.int v_today, .int v_monks, .int v_aways, .int v_feasts, .int v_gifts, .int v_leaves, .int v_lates, .int v_store, .int v_allCandles, .ref a_isPriest, .ref a_bars, .ref a_joined, .ref a_turns, .ref a_awayMonk, .ref a_awayFrom, .ref a_awayTo, .ref a_feastDay, .ref a_rank, .ref a_isWeekly, .ref a_isDouble, .ref a_giftDay, .ref a_giftFrom, .ref a_owed, .ref a_said, .ref a_spared, .ref a_leaveGift, .ref a_leaveFrom, .ref a_leaveTo, .ref a_lateDay, .ref a_lateOffice, .ref a_lateBy, .ref a_guests, .ref a_who, .ref a_used, .ref a_lacks, .ref a_candles, .ref a_masses, .ref a_owing, .ref a_heldOn, .ref a_waits, .ref a_tape, .ref a_text, .int v_taped, .int v_size, .int v_at, .int v_fault, .int v_rules, .ref a_statements, .ref a_taken, .ref a_sort, .ref a_first, .ref a_second, .int v_wordEnd, .int v_number])), (a_tape, .inl (cB, 600, .inl f_tape))]) (va_Qv (fun u : Int32 × (Nat → Int32) => u.2 = fourF f_tape v_taped x ∧ u.1 = l4F v_taped) (BW D [(h, .inr (11, [.int v_today, .int v_monks, .int v_aways, .int v_feasts, .int v_gifts, .int v_leaves, .int v_lates, .int v_store, .int v_allCandles, .ref a_isPriest, .ref a_bars, .ref a_joined, .ref a_turns, .ref a_awayMonk, .ref a_awayFrom, .ref a_awayTo, .ref a_feastDay, .ref a_rank, .ref a_isWeekly, .ref a_isDouble, .ref a_giftDay, .ref a_giftFrom, .ref a_owed, .ref a_said, .ref a_spared, .ref a_leaveGift, .ref a_leaveFrom, .ref a_leaveTo, .ref a_lateDay, .ref a_lateOffice, .ref a_lateBy, .ref a_guests, .ref a_who, .ref a_used, .ref a_lacks, .ref a_candles, .ref a_masses, .ref a_owing, .ref a_heldOn, .ref a_waits, .ref a_tape, .ref a_text, .int v_taped, .int v_size, .int v_at, .int v_fault, .int v_rules, .ref a_statements, .ref a_taken, .ref a_sort, .ref a_first, .ref a_second, .int v_wordEnd, .int v_number])), (a_tape, .inl (cB, 600, .inl f_tape))] sz (fun u : Int32 × (Nat → Int32) => [(h, .inr (11, [.int v_today, .int v_monks, .int v_aways, .int v_feasts, .int v_gifts, .int v_leaves, .int v_lates, .int v_store, .int v_allCandles, .ref a_isPriest, .ref a_bars, .ref a_joined, .ref a_turns, .ref a_awayMonk, .ref a_awayFrom, .ref a_awayTo, .ref a_feastDay, .ref a_rank, .ref a_isWeekly, .ref a_isDouble, .ref a_giftDay, .ref a_giftFrom, .ref a_owed, .ref a_said, .ref a_spared, .ref a_leaveGift, .ref a_leaveFrom, .ref a_leaveTo, .ref a_lateDay, .ref a_lateOffice, .ref a_lateBy, .ref a_guests, .ref a_who, .ref a_used, .ref a_lacks, .ref a_candles, .ref a_masses, .ref a_owing, .ref a_heldOn, .ref a_waits, .ref a_tape, .ref a_text, .int u.1, .int v_size, .int v_at, .int v_fault, .int v_rules, .ref a_statements, .ref a_taken, .ref a_sort, .ref a_first, .ref a_second, .int v_wordEnd, .int v_number])), (a_tape, .inl (cB, 600, .inl u.2))])) (va_A [(h, .inr (11, [.int v_today, .int v_monks, .int v_aways, .int v_feasts, .int v_gifts, .int v_leaves, .int v_lates, .int v_store, .int v_allCandles, .ref a_isPriest, .ref a_bars, .ref a_joined, .ref a_turns, .ref a_awayMonk, .ref a_awayFrom, .ref a_awayTo, .ref a_feastDay, .ref a_rank, .ref a_isWeekly, .ref a_isDouble, .ref a_giftDay, .ref a_giftFrom, .ref a_owed, .ref a_said, .ref a_spared, .ref a_leaveGift, .ref a_leaveFrom, .ref a_leaveTo, .ref a_lateDay, .ref a_lateOffice, .ref a_lateBy, .ref a_guests, .ref a_who, .ref a_used, .ref a_lacks, .ref a_candles, .ref a_masses, .ref a_owing, .ref a_heldOn, .ref a_waits, .ref a_tape, .ref a_text, .int v_taped, .int v_size, .int v_at, .int v_fault, .int v_rules, .ref a_statements, .ref a_taken, .ref a_sort, .ref a_first, .ref a_second, .int v_wordEnd, .int v_number])), (a_tape, .inl (cB, 600, .inl f_tape))] sz)) 0 (0) (va_A [(h, .inr (11, [.int v_today, .int v_monks, .int v_aways, .int v_feasts, .int v_gifts, .int v_leaves, .int v_lates, .int v_store, .int v_allCandles, .ref a_isPriest, .ref a_bars, .ref a_joined, .ref a_turns, .ref a_awayMonk, .ref a_awayFrom, .ref a_awayTo, .ref a_feastDay, .ref a_rank, .ref a_isWeekly, .ref a_isDouble, .ref a_giftDay, .ref a_giftFrom, .ref a_owed, .ref a_said, .ref a_spared, .ref a_leaveGift, .ref a_leaveFrom, .ref a_leaveTo, .ref a_lateDay, .ref a_lateOffice, .ref a_lateBy, .ref a_guests, .ref a_who, .ref a_used, .ref a_lacks, .ref a_candles, .ref a_masses, .ref a_owing, .ref a_heldOn, .ref a_waits, .ref a_tape, .ref a_text, .int v_taped, .int v_size, .int v_at, .int v_fault, .int v_rules, .ref a_statements, .ref a_taken, .ref a_sort, .ref a_first, .ref a_second, .int v_wordEnd, .int v_number])), (a_tape, .inl (cB, 600, .inl f_tape))] sz) := by
  refine rw_retv (cc := cX12_four) (maxL := 3) (own := RX12) (by decide) rfl rfl (Nat.le_of_ble_eq_true rfl) ?_
  intro p e s m args below meth c Q A S hin hret hP hK hD hA hS ls hl
  obtain ⟨hx, hb, hml, hown, hts⟩ := id S
  have hl : lv_has ls 3 [(0, .ref h), (1, .int x)] := hl
  have kkm8 : (-8 : Int32).toInt = -8 := by decide
  have kk0 : (0 : Int32).toInt = 0 := by decide
  have kk1 : (1 : Int32).toInt = 1 := by decide
  have kk24 : (24 : Int32).toInt = 24 := by decide
  have kk600 : (600 : Int32).toInt = 600 := by decide
  have lk0 := hts (.fieldLink RX12 104 "AbbeyHoursModel" "tape" "[B") (List.mem_cons_of_mem _ (List.mem_append_left _ (List.mem_of_getElem? (i := 0) rfl)))
  have lk1 := hts (.fieldLink RX12 185 "AbbeyHoursModel" "taped" "I") (List.mem_cons_of_mem _ (List.mem_append_left _ (List.mem_of_getElem? (i := 1) rfl)))
  refine lv_bipush (v := 24) hx hb dX12_four_0 (by decide) ?_
  refine lv_istore_n (lv' := [(2, .int 24), (0, .ref h), (1, .int x)]) hx hb dX12_four_2 rfl hl (by decide) rfl (fun ls hl => ?_)
  refine lv_iload_n hx hb dX12_four_3 rfl (lv_at hl 0 rfl) ?_
  refine lv_if_lt (tgt := 36) hx hb dX12_four_4 (by decide) (fun c_1 => ?_) (fun c_1 => ?_)
  · exact absurd c_1 (by decide)
  · have tc_1 := t_nlt c_1
    refine lv_aload_n hx hb dX12_four_7 rfl (lv_at hl 1 rfl) ?_
    refine va_get (D := D) (ci := 11) (v := .ref a_tape) (C := RX12) (T := TX12) (N := 54) hx hb hts in_p_four_X12 hown hK.1 hP 0 rfl rfl 40 (by decide) lk0 (fun _ h9 => h9) rfl dX12_four_8 ?_
    refine lv_aload_n hx hb dX12_four_11 rfl (lv_at hl 1 rfl) ?_
    refine va_get (D := D) (ci := 11) (v := .int v_taped) (C := RX12) (T := TX12) (N := 54) hx hb hts in_p_four_X12 hown hK.1 hP 0 rfl rfl 42 (by decide) lk1 (fun _ h9 => h9) rfl dX12_four_12 ?_
    refine lv_iload_n hx hb dX12_four_15 rfl (lv_at hl 2 rfl) ?_
    refine lv_iload_n hx hb dX12_four_16 rfl (lv_at hl 0 rfl) ?_
    refine lv_ishr hx hb dX12_four_17 ?_
    refine lv_topi (fun x_2 ex_2 => ?_)
    refine lv_i2b hx hb dX12_four_18 rfl ?_
    refine lv_topi (fun x_3 ex_3 => ?_)
    refine va_bast hx hb hK.1 hP hD hS 1 2 rfl rfl (t_in (by omega) (by omega)) dX12_four_19 (fun H locs hP hD hS => ?_)
    obtain ⟨g_4, eg_4⟩ : ∃ z : Nat → Int32, z = upd f_tape ((v_taped : Int32).toNatClampNeg) (vp_nar .byte x_3) := ⟨_, rfl⟩
    rw [← eg_4] at hP hD
    have hP : va_P D vwCl [(h, .inr (11, [.int v_today, .int v_monks, .int v_aways, .int v_feasts, .int v_gifts, .int v_leaves, .int v_lates, .int v_store, .int v_allCandles, .ref a_isPriest, .ref a_bars, .ref a_joined, .ref a_turns, .ref a_awayMonk, .ref a_awayFrom, .ref a_awayTo, .ref a_feastDay, .ref a_rank, .ref a_isWeekly, .ref a_isDouble, .ref a_giftDay, .ref a_giftFrom, .ref a_owed, .ref a_said, .ref a_spared, .ref a_leaveGift, .ref a_leaveFrom, .ref a_leaveTo, .ref a_lateDay, .ref a_lateOffice, .ref a_lateBy, .ref a_guests, .ref a_who, .ref a_used, .ref a_lacks, .ref a_candles, .ref a_masses, .ref a_owing, .ref a_heldOn, .ref a_waits, .ref a_tape, .ref a_text, .int v_taped, .int v_size, .int v_at, .int v_fault, .int v_rules, .ref a_statements, .ref a_taken, .ref a_sort, .ref a_first, .ref a_second, .int v_wordEnd, .int v_number])), (a_tape, .inl (cB, 600, .inl g_4))] H := hP
    have hD := asD hP hD
    refine lv_aload_n hx hb dX12_four_20 rfl (lv_at hl 1 rfl) ?_
    refine lv_dup hx hb dX12_four_21 rfl ?_
    refine va_get (D := D) (ci := 11) (v := .int v_taped) (C := RX12) (T := TX12) (N := 54) hx hb hts in_p_four_X12 hown hK.1 hP 0 rfl rfl 42 (by decide) lk1 (fun _ h9 => h9) rfl dX12_four_22 ?_
    refine lv_iconst (v := 1) hx hb dX12_four_25 (by decide) ?_
    refine lv_iadd hx hb dX12_four_26 ?_
    refine lv_topi (fun x_5 ex_5 => ?_)
    first | have tx_5 := t_add ex_5 (by omega) (by omega) | skip
    refine va_put (D := D) (ci := 11) (v := .int x_5) (ty := .int) (C := RX12) (T := TX12) (N := 54) hx hb hts in_p_four_X12 tyX12 tyX12_ok nmX12 hown hK.1 hP hD hS 0 rfl rfl 42 (by decide) lk1 (fun _ h9 => h9) rfl (by decide +kernel) rfl rfl (Nat.le_of_ble_eq_true rfl) dX12_four_27 (fun H locs hP hD hS => ?_)
    have hP : va_P D vwCl [(h, .inr (11, [.int v_today, .int v_monks, .int v_aways, .int v_feasts, .int v_gifts, .int v_leaves, .int v_lates, .int v_store, .int v_allCandles, .ref a_isPriest, .ref a_bars, .ref a_joined, .ref a_turns, .ref a_awayMonk, .ref a_awayFrom, .ref a_awayTo, .ref a_feastDay, .ref a_rank, .ref a_isWeekly, .ref a_isDouble, .ref a_giftDay, .ref a_giftFrom, .ref a_owed, .ref a_said, .ref a_spared, .ref a_leaveGift, .ref a_leaveFrom, .ref a_leaveTo, .ref a_lateDay, .ref a_lateOffice, .ref a_lateBy, .ref a_guests, .ref a_who, .ref a_used, .ref a_lacks, .ref a_candles, .ref a_masses, .ref a_owing, .ref a_heldOn, .ref a_waits, .ref a_tape, .ref a_text, .int x_5, .int v_size, .int v_at, .int v_fault, .int v_rules, .ref a_statements, .ref a_taken, .ref a_sort, .ref a_first, .ref a_second, .int v_wordEnd, .int v_number])), (a_tape, .inl (cB, 600, .inl g_4))] H := hP
    have hD := asD hP hD
    obtain ⟨x_6, ex_6⟩ : ∃ y : Int32, y = 24 + (-8) := ⟨_, rfl⟩
    obtain rfl : x_6 = 16 := by rw [ex_6]; decide
    refine lv_iinc (v := 16) (lv' := [(2, .int 16), (0, .ref h), (1, .int x)]) hx hb dX12_four_30 hl (k := 0) rfl (by decide) (by decide) rfl (fun ls hl => ?_)
    refine lv_goto (tgt := 3) hx hb dX12_four_33 (by decide) ?_
    refine lv_iload_n hx hb dX12_four_3 rfl (lv_at hl 0 rfl) ?_
    refine lv_if_lt (tgt := 36) hx hb dX12_four_4 (by decide) (fun c_7 => ?_) (fun c_7 => ?_)
    · exact absurd c_7 (by decide)
    · have tc_7 := t_nlt c_7
      refine lv_aload_n hx hb dX12_four_7 rfl (lv_at hl 1 rfl) ?_
      refine va_get (D := D) (ci := 11) (v := .ref a_tape) (C := RX12) (T := TX12) (N := 54) hx hb hts in_p_four_X12 hown hK.1 hP 0 rfl rfl 40 (by decide) lk0 (fun _ h9 => h9) rfl dX12_four_8 ?_
      refine lv_aload_n hx hb dX12_four_11 rfl (lv_at hl 1 rfl) ?_
      refine va_get (D := D) (ci := 11) (v := .int x_5) (C := RX12) (T := TX12) (N := 54) hx hb hts in_p_four_X12 hown hK.1 hP 0 rfl rfl 42 (by decide) lk1 (fun _ h9 => h9) rfl dX12_four_12 ?_
      refine lv_iload_n hx hb dX12_four_15 rfl (lv_at hl 2 rfl) ?_
      refine lv_iload_n hx hb dX12_four_16 rfl (lv_at hl 0 rfl) ?_
      refine lv_ishr hx hb dX12_four_17 ?_
      refine lv_topi (fun x_8 ex_8 => ?_)
      refine lv_i2b hx hb dX12_four_18 rfl ?_
      refine lv_topi (fun x_9 ex_9 => ?_)
      refine va_bast hx hb hK.1 hP hD hS 1 2 rfl rfl (t_in (by omega) (by omega)) dX12_four_19 (fun H locs hP hD hS => ?_)
      obtain ⟨g_10, eg_10⟩ : ∃ z : Nat → Int32, z = upd g_4 ((x_5 : Int32).toNatClampNeg) (vp_nar .byte x_9) := ⟨_, rfl⟩
      rw [← eg_10] at hP hD
      have hP : va_P D vwCl [(h, .inr (11, [.int v_today, .int v_monks, .int v_aways, .int v_feasts, .int v_gifts, .int v_leaves, .int v_lates, .int v_store, .int v_allCandles, .ref a_isPriest, .ref a_bars, .ref a_joined, .ref a_turns, .ref a_awayMonk, .ref a_awayFrom, .ref a_awayTo, .ref a_feastDay, .ref a_rank, .ref a_isWeekly, .ref a_isDouble, .ref a_giftDay, .ref a_giftFrom, .ref a_owed, .ref a_said, .ref a_spared, .ref a_leaveGift, .ref a_leaveFrom, .ref a_leaveTo, .ref a_lateDay, .ref a_lateOffice, .ref a_lateBy, .ref a_guests, .ref a_who, .ref a_used, .ref a_lacks, .ref a_candles, .ref a_masses, .ref a_owing, .ref a_heldOn, .ref a_waits, .ref a_tape, .ref a_text, .int x_5, .int v_size, .int v_at, .int v_fault, .int v_rules, .ref a_statements, .ref a_taken, .ref a_sort, .ref a_first, .ref a_second, .int v_wordEnd, .int v_number])), (a_tape, .inl (cB, 600, .inl g_10))] H := hP
      have hD := asD hP hD
      refine lv_aload_n hx hb dX12_four_20 rfl (lv_at hl 1 rfl) ?_
      refine lv_dup hx hb dX12_four_21 rfl ?_
      refine va_get (D := D) (ci := 11) (v := .int x_5) (C := RX12) (T := TX12) (N := 54) hx hb hts in_p_four_X12 hown hK.1 hP 0 rfl rfl 42 (by decide) lk1 (fun _ h9 => h9) rfl dX12_four_22 ?_
      refine lv_iconst (v := 1) hx hb dX12_four_25 (by decide) ?_
      refine lv_iadd hx hb dX12_four_26 ?_
      refine lv_topi (fun x_11 ex_11 => ?_)
      first | have tx_11 := t_add ex_11 (by omega) (by omega) | skip
      refine va_put (D := D) (ci := 11) (v := .int x_11) (ty := .int) (C := RX12) (T := TX12) (N := 54) hx hb hts in_p_four_X12 tyX12 tyX12_ok nmX12 hown hK.1 hP hD hS 0 rfl rfl 42 (by decide) lk1 (fun _ h9 => h9) rfl (by decide +kernel) rfl rfl (Nat.le_of_ble_eq_true rfl) dX12_four_27 (fun H locs hP hD hS => ?_)
      have hP : va_P D vwCl [(h, .inr (11, [.int v_today, .int v_monks, .int v_aways, .int v_feasts, .int v_gifts, .int v_leaves, .int v_lates, .int v_store, .int v_allCandles, .ref a_isPriest, .ref a_bars, .ref a_joined, .ref a_turns, .ref a_awayMonk, .ref a_awayFrom, .ref a_awayTo, .ref a_feastDay, .ref a_rank, .ref a_isWeekly, .ref a_isDouble, .ref a_giftDay, .ref a_giftFrom, .ref a_owed, .ref a_said, .ref a_spared, .ref a_leaveGift, .ref a_leaveFrom, .ref a_leaveTo, .ref a_lateDay, .ref a_lateOffice, .ref a_lateBy, .ref a_guests, .ref a_who, .ref a_used, .ref a_lacks, .ref a_candles, .ref a_masses, .ref a_owing, .ref a_heldOn, .ref a_waits, .ref a_tape, .ref a_text, .int x_11, .int v_size, .int v_at, .int v_fault, .int v_rules, .ref a_statements, .ref a_taken, .ref a_sort, .ref a_first, .ref a_second, .int v_wordEnd, .int v_number])), (a_tape, .inl (cB, 600, .inl g_10))] H := hP
      have hD := asD hP hD
      obtain ⟨x_12, ex_12⟩ : ∃ y : Int32, y = 16 + (-8) := ⟨_, rfl⟩
      obtain rfl : x_12 = 8 := by rw [ex_12]; decide
      refine lv_iinc (v := 8) (lv' := [(2, .int 8), (0, .ref h), (1, .int x)]) hx hb dX12_four_30 hl (k := 0) rfl (by decide) (by decide) rfl (fun ls hl => ?_)
      refine lv_goto (tgt := 3) hx hb dX12_four_33 (by decide) ?_
      refine lv_iload_n hx hb dX12_four_3 rfl (lv_at hl 0 rfl) ?_
      refine lv_if_lt (tgt := 36) hx hb dX12_four_4 (by decide) (fun c_13 => ?_) (fun c_13 => ?_)
      · exact absurd c_13 (by decide)
      · have tc_13 := t_nlt c_13
        refine lv_aload_n hx hb dX12_four_7 rfl (lv_at hl 1 rfl) ?_
        refine va_get (D := D) (ci := 11) (v := .ref a_tape) (C := RX12) (T := TX12) (N := 54) hx hb hts in_p_four_X12 hown hK.1 hP 0 rfl rfl 40 (by decide) lk0 (fun _ h9 => h9) rfl dX12_four_8 ?_
        refine lv_aload_n hx hb dX12_four_11 rfl (lv_at hl 1 rfl) ?_
        refine va_get (D := D) (ci := 11) (v := .int x_11) (C := RX12) (T := TX12) (N := 54) hx hb hts in_p_four_X12 hown hK.1 hP 0 rfl rfl 42 (by decide) lk1 (fun _ h9 => h9) rfl dX12_four_12 ?_
        refine lv_iload_n hx hb dX12_four_15 rfl (lv_at hl 2 rfl) ?_
        refine lv_iload_n hx hb dX12_four_16 rfl (lv_at hl 0 rfl) ?_
        refine lv_ishr hx hb dX12_four_17 ?_
        refine lv_topi (fun x_14 ex_14 => ?_)
        refine lv_i2b hx hb dX12_four_18 rfl ?_
        refine lv_topi (fun x_15 ex_15 => ?_)
        refine va_bast hx hb hK.1 hP hD hS 1 2 rfl rfl (t_in (by omega) (by omega)) dX12_four_19 (fun H locs hP hD hS => ?_)
        obtain ⟨g_16, eg_16⟩ : ∃ z : Nat → Int32, z = upd g_10 ((x_11 : Int32).toNatClampNeg) (vp_nar .byte x_15) := ⟨_, rfl⟩
        rw [← eg_16] at hP hD
        have hP : va_P D vwCl [(h, .inr (11, [.int v_today, .int v_monks, .int v_aways, .int v_feasts, .int v_gifts, .int v_leaves, .int v_lates, .int v_store, .int v_allCandles, .ref a_isPriest, .ref a_bars, .ref a_joined, .ref a_turns, .ref a_awayMonk, .ref a_awayFrom, .ref a_awayTo, .ref a_feastDay, .ref a_rank, .ref a_isWeekly, .ref a_isDouble, .ref a_giftDay, .ref a_giftFrom, .ref a_owed, .ref a_said, .ref a_spared, .ref a_leaveGift, .ref a_leaveFrom, .ref a_leaveTo, .ref a_lateDay, .ref a_lateOffice, .ref a_lateBy, .ref a_guests, .ref a_who, .ref a_used, .ref a_lacks, .ref a_candles, .ref a_masses, .ref a_owing, .ref a_heldOn, .ref a_waits, .ref a_tape, .ref a_text, .int x_11, .int v_size, .int v_at, .int v_fault, .int v_rules, .ref a_statements, .ref a_taken, .ref a_sort, .ref a_first, .ref a_second, .int v_wordEnd, .int v_number])), (a_tape, .inl (cB, 600, .inl g_16))] H := hP
        have hD := asD hP hD
        refine lv_aload_n hx hb dX12_four_20 rfl (lv_at hl 1 rfl) ?_
        refine lv_dup hx hb dX12_four_21 rfl ?_
        refine va_get (D := D) (ci := 11) (v := .int x_11) (C := RX12) (T := TX12) (N := 54) hx hb hts in_p_four_X12 hown hK.1 hP 0 rfl rfl 42 (by decide) lk1 (fun _ h9 => h9) rfl dX12_four_22 ?_
        refine lv_iconst (v := 1) hx hb dX12_four_25 (by decide) ?_
        refine lv_iadd hx hb dX12_four_26 ?_
        refine lv_topi (fun x_17 ex_17 => ?_)
        first | have tx_17 := t_add ex_17 (by omega) (by omega) | skip
        refine va_put (D := D) (ci := 11) (v := .int x_17) (ty := .int) (C := RX12) (T := TX12) (N := 54) hx hb hts in_p_four_X12 tyX12 tyX12_ok nmX12 hown hK.1 hP hD hS 0 rfl rfl 42 (by decide) lk1 (fun _ h9 => h9) rfl (by decide +kernel) rfl rfl (Nat.le_of_ble_eq_true rfl) dX12_four_27 (fun H locs hP hD hS => ?_)
        have hP : va_P D vwCl [(h, .inr (11, [.int v_today, .int v_monks, .int v_aways, .int v_feasts, .int v_gifts, .int v_leaves, .int v_lates, .int v_store, .int v_allCandles, .ref a_isPriest, .ref a_bars, .ref a_joined, .ref a_turns, .ref a_awayMonk, .ref a_awayFrom, .ref a_awayTo, .ref a_feastDay, .ref a_rank, .ref a_isWeekly, .ref a_isDouble, .ref a_giftDay, .ref a_giftFrom, .ref a_owed, .ref a_said, .ref a_spared, .ref a_leaveGift, .ref a_leaveFrom, .ref a_leaveTo, .ref a_lateDay, .ref a_lateOffice, .ref a_lateBy, .ref a_guests, .ref a_who, .ref a_used, .ref a_lacks, .ref a_candles, .ref a_masses, .ref a_owing, .ref a_heldOn, .ref a_waits, .ref a_tape, .ref a_text, .int x_17, .int v_size, .int v_at, .int v_fault, .int v_rules, .ref a_statements, .ref a_taken, .ref a_sort, .ref a_first, .ref a_second, .int v_wordEnd, .int v_number])), (a_tape, .inl (cB, 600, .inl g_16))] H := hP
        have hD := asD hP hD
        obtain ⟨x_18, ex_18⟩ : ∃ y : Int32, y = 8 + (-8) := ⟨_, rfl⟩
        obtain rfl : x_18 = 0 := by rw [ex_18]; decide
        refine lv_iinc (v := 0) (lv' := [(2, .int 0), (0, .ref h), (1, .int x)]) hx hb dX12_four_30 hl (k := 0) rfl (by decide) (by decide) rfl (fun ls hl => ?_)
        refine lv_goto (tgt := 3) hx hb dX12_four_33 (by decide) ?_
        refine lv_iload_n hx hb dX12_four_3 rfl (lv_at hl 0 rfl) ?_
        refine lv_if_lt (tgt := 36) hx hb dX12_four_4 (by decide) (fun c_19 => ?_) (fun c_19 => ?_)
        · exact absurd c_19 (by decide)
        · have tc_19 := t_nlt c_19
          refine lv_aload_n hx hb dX12_four_7 rfl (lv_at hl 1 rfl) ?_
          refine va_get (D := D) (ci := 11) (v := .ref a_tape) (C := RX12) (T := TX12) (N := 54) hx hb hts in_p_four_X12 hown hK.1 hP 0 rfl rfl 40 (by decide) lk0 (fun _ h9 => h9) rfl dX12_four_8 ?_
          refine lv_aload_n hx hb dX12_four_11 rfl (lv_at hl 1 rfl) ?_
          refine va_get (D := D) (ci := 11) (v := .int x_17) (C := RX12) (T := TX12) (N := 54) hx hb hts in_p_four_X12 hown hK.1 hP 0 rfl rfl 42 (by decide) lk1 (fun _ h9 => h9) rfl dX12_four_12 ?_
          refine lv_iload_n hx hb dX12_four_15 rfl (lv_at hl 2 rfl) ?_
          refine lv_iload_n hx hb dX12_four_16 rfl (lv_at hl 0 rfl) ?_
          refine lv_ishr hx hb dX12_four_17 ?_
          refine lv_topi (fun x_20 ex_20 => ?_)
          refine lv_i2b hx hb dX12_four_18 rfl ?_
          refine lv_topi (fun x_21 ex_21 => ?_)
          refine va_bast hx hb hK.1 hP hD hS 1 2 rfl rfl (t_in (by omega) (by omega)) dX12_four_19 (fun H locs hP hD hS => ?_)
          obtain ⟨g_22, eg_22⟩ : ∃ z : Nat → Int32, z = upd g_16 ((x_17 : Int32).toNatClampNeg) (vp_nar .byte x_21) := ⟨_, rfl⟩
          rw [← eg_22] at hP hD
          have hP : va_P D vwCl [(h, .inr (11, [.int v_today, .int v_monks, .int v_aways, .int v_feasts, .int v_gifts, .int v_leaves, .int v_lates, .int v_store, .int v_allCandles, .ref a_isPriest, .ref a_bars, .ref a_joined, .ref a_turns, .ref a_awayMonk, .ref a_awayFrom, .ref a_awayTo, .ref a_feastDay, .ref a_rank, .ref a_isWeekly, .ref a_isDouble, .ref a_giftDay, .ref a_giftFrom, .ref a_owed, .ref a_said, .ref a_spared, .ref a_leaveGift, .ref a_leaveFrom, .ref a_leaveTo, .ref a_lateDay, .ref a_lateOffice, .ref a_lateBy, .ref a_guests, .ref a_who, .ref a_used, .ref a_lacks, .ref a_candles, .ref a_masses, .ref a_owing, .ref a_heldOn, .ref a_waits, .ref a_tape, .ref a_text, .int x_17, .int v_size, .int v_at, .int v_fault, .int v_rules, .ref a_statements, .ref a_taken, .ref a_sort, .ref a_first, .ref a_second, .int v_wordEnd, .int v_number])), (a_tape, .inl (cB, 600, .inl g_22))] H := hP
          have hD := asD hP hD
          refine lv_aload_n hx hb dX12_four_20 rfl (lv_at hl 1 rfl) ?_
          refine lv_dup hx hb dX12_four_21 rfl ?_
          refine va_get (D := D) (ci := 11) (v := .int x_17) (C := RX12) (T := TX12) (N := 54) hx hb hts in_p_four_X12 hown hK.1 hP 0 rfl rfl 42 (by decide) lk1 (fun _ h9 => h9) rfl dX12_four_22 ?_
          refine lv_iconst (v := 1) hx hb dX12_four_25 (by decide) ?_
          refine lv_iadd hx hb dX12_four_26 ?_
          refine lv_topi (fun x_23 ex_23 => ?_)
          first | have tx_23 := t_add ex_23 (by omega) (by omega) | skip
          refine va_put (D := D) (ci := 11) (v := .int x_23) (ty := .int) (C := RX12) (T := TX12) (N := 54) hx hb hts in_p_four_X12 tyX12 tyX12_ok nmX12 hown hK.1 hP hD hS 0 rfl rfl 42 (by decide) lk1 (fun _ h9 => h9) rfl (by decide +kernel) rfl rfl (Nat.le_of_ble_eq_true rfl) dX12_four_27 (fun H locs hP hD hS => ?_)
          have hP : va_P D vwCl [(h, .inr (11, [.int v_today, .int v_monks, .int v_aways, .int v_feasts, .int v_gifts, .int v_leaves, .int v_lates, .int v_store, .int v_allCandles, .ref a_isPriest, .ref a_bars, .ref a_joined, .ref a_turns, .ref a_awayMonk, .ref a_awayFrom, .ref a_awayTo, .ref a_feastDay, .ref a_rank, .ref a_isWeekly, .ref a_isDouble, .ref a_giftDay, .ref a_giftFrom, .ref a_owed, .ref a_said, .ref a_spared, .ref a_leaveGift, .ref a_leaveFrom, .ref a_leaveTo, .ref a_lateDay, .ref a_lateOffice, .ref a_lateBy, .ref a_guests, .ref a_who, .ref a_used, .ref a_lacks, .ref a_candles, .ref a_masses, .ref a_owing, .ref a_heldOn, .ref a_waits, .ref a_tape, .ref a_text, .int x_23, .int v_size, .int v_at, .int v_fault, .int v_rules, .ref a_statements, .ref a_taken, .ref a_sort, .ref a_first, .ref a_second, .int v_wordEnd, .int v_number])), (a_tape, .inl (cB, 600, .inl g_22))] H := hP
          have hD := asD hP hD
          obtain ⟨x_24, ex_24⟩ : ∃ y : Int32, y = 0 + (-8) := ⟨_, rfl⟩
          obtain rfl : x_24 = (-8) := by rw [ex_24]; decide
          refine lv_iinc (v := (-8)) (lv' := [(2, .int (-8)), (0, .ref h), (1, .int x)]) hx hb dX12_four_30 hl (k := 0) rfl (by decide) (by decide) rfl (fun ls hl => ?_)
          refine lv_goto (tgt := 3) hx hb dX12_four_33 (by decide) ?_
          refine lv_iload_n hx hb dX12_four_3 rfl (lv_at hl 0 rfl) ?_
          refine lv_if_lt (tgt := 36) hx hb dX12_four_4 (by decide) (fun c_25 => ?_) (fun c_25 => ?_)
          · have tc_25 := t_lt c_25
            exact hret (x_23, g_22) _ _ _ _ (show g_22 = fourF f_tape v_taped x ∧ x_23 = l4F v_taped from ⟨by subst_vars; rfl, by subst_vars; rfl⟩) (hP.sub [0, 1] rfl) (hD.sub [0, 1] (by decide +kernel) rfl) hS dX12_four_36
          · exact absurd c_25 (by decide)

theorem in_E_feed_X11 : ∀ w ∈ wsX110, w ∈ wsX11_feed := tl_X11_feed_X11
set_option maxHeartbeats 8000000 in
set_option maxRecDepth 100000 in
theorem E_feed {l : Launch} {D : va_G} {cI cZ cB : ClassId} {sz : Nat} {h a_bells a_feasts a_tape a_reader a_rules a_monks a_duties a_gifts a_figures ta_bytes : Nat} {v_today v_stock v_guestHeads v_guestRanks v_faultPlace v_candlesInAll tv_length : Int32} {tf_bytes : Nat → Int32} {xa xb xc xd xe : Int32} (htv_length0 : 0 ≤ tv_length.toInt) (htv_length1 : tv_length.toInt ≤ 600) : Met l yX11_feed wsX11_feed ({ frames := 1, cells := 0, slots := 0, locals := 22 }) (RW D cI cZ cB [.ref h, .int xa, .int xb, .int xc, .int xd, .int xe] sz [(h, .inr (10, [.ref a_bells, .ref a_feasts, .ref a_tape, .ref a_reader, .ref a_rules, .ref a_monks, .ref a_duties, .ref a_gifts, .ref a_figures, .int v_today, .int v_stock, .int v_guestHeads, .int v_guestRanks, .int v_faultPlace, .int v_candlesInAll])), (a_tape, .inr (8, [.ref ta_bytes, .int tv_length])), (ta_bytes, .inl (cB, 600, .inl tf_bytes))]) (va_Qi (fun (r : Int32) (u : Int32 × (Nat → Int32)) => ((tv_length.toInt ≤ 580) ∧ r.toInt = tv_length.toInt + 20 ∧ u.1 = l20F tv_length ∧ u.2 = feedB tf_bytes tv_length xa xb xc xd xe) ∨ (¬ (tv_length.toInt ≤ 580) ∧ r.toInt = -1 ∧ u.1 = tv_length ∧ u.2 = tf_bytes)) (BW D [(h, .inr (10, [.ref a_bells, .ref a_feasts, .ref a_tape, .ref a_reader, .ref a_rules, .ref a_monks, .ref a_duties, .ref a_gifts, .ref a_figures, .int v_today, .int v_stock, .int v_guestHeads, .int v_guestRanks, .int v_faultPlace, .int v_candlesInAll])), (a_tape, .inr (8, [.ref ta_bytes, .int tv_length])), (ta_bytes, .inl (cB, 600, .inl tf_bytes))] sz (fun u : Int32 × (Nat → Int32) => [(h, .inr (10, [.ref a_bells, .ref a_feasts, .ref a_tape, .ref a_reader, .ref a_rules, .ref a_monks, .ref a_duties, .ref a_gifts, .ref a_figures, .int v_today, .int v_stock, .int v_guestHeads, .int v_guestRanks, .int v_faultPlace, .int v_candlesInAll])), (a_tape, .inr (8, [.ref ta_bytes, .int u.1])), (ta_bytes, .inl (cB, 600, .inl u.2))])) (va_A [(h, .inr (10, [.ref a_bells, .ref a_feasts, .ref a_tape, .ref a_reader, .ref a_rules, .ref a_monks, .ref a_duties, .ref a_gifts, .ref a_figures, .int v_today, .int v_stock, .int v_guestHeads, .int v_guestRanks, .int v_faultPlace, .int v_candlesInAll])), (a_tape, .inr (8, [.ref ta_bytes, .int tv_length])), (ta_bytes, .inl (cB, 600, .inl tf_bytes))] sz)) 0 (0) (va_A [(h, .inr (10, [.ref a_bells, .ref a_feasts, .ref a_tape, .ref a_reader, .ref a_rules, .ref a_monks, .ref a_duties, .ref a_gifts, .ref a_figures, .int v_today, .int v_stock, .int v_guestHeads, .int v_guestRanks, .int v_faultPlace, .int v_candlesInAll])), (a_tape, .inr (8, [.ref ta_bytes, .int tv_length])), (ta_bytes, .inl (cB, 600, .inl tf_bytes))] sz) := by
  refine rw_ret (cc := cX11_feed) (maxL := 6) (ty := .int) (own := RX11) (by decide) rfl rfl (Nat.le_of_ble_eq_true rfl) ?_
  intro p e s m args below meth c Q A S hin hret hP hK hD hA hS ls hl
  obtain ⟨hx, hb, hml, hown, hts⟩ := id S
  have hl : lv_has ls 6 [(0, .ref h), (1, .int xa), (2, .int xb), (3, .int xc), (4, .int xd), (5, .int xe)] := hl
  have kkm1 : (-1 : Int32).toInt = -1 := by decide
  have kk0 : (0 : Int32).toInt = 0 := by decide
  have lk0 := hts (.fieldLink RX11 26 "AbbeyHours" "tape" "LAbbeyHours$Tape;") (List.mem_cons_of_mem _ (List.mem_append_left _ (List.mem_append_left _ (List.mem_of_getElem? (i := 0) rfl))))
  refine lv_aload_n hx hb dX11_feed_0 rfl (lv_at hl 0 rfl) ?_
  refine va_get (D := D) (ci := 10) (v := .ref a_tape) (C := RX11) (T := TX11) (N := 15) hx hb hts in_E_feed_X11 hown hK.1 hP 0 rfl rfl 2 (by decide) lk0 (fun _ h9 => h9) rfl dX11_feed_1 ?_
  have hPc := hP.sub (ws' := [(a_tape, .inr (8, [.ref ta_bytes, .int tv_length]))]) [1] rfl
  refine roV (As := []) (rest := []) S (t_room  (by omega) (by omega)) (cwV 0 hts gX11_feed_X9_hasRoomForFeed rfl rfl rfl ⟨rfl, hd_X9_hasRoomForFeed⟩ ⟨Nat.le_of_ble_eq_true rfl, Nat.le_of_ble_eq_true rfl⟩) hK hPc (va_recv hK.1 hPc (ci := 8) (q0 := 0) rfl rfl) rfl hl.1 rfl (Nat.le_of_ble_eq_true rfl) dX11_feed_4 ⟨Nat.le_of_ble_eq_true rfl, Nat.le_of_ble_eq_true rfl⟩ (fun r_1 hw_1 => ?_)
  have hw_1 : (r_1.toInt = 1 ∧ tv_length.toInt ≤ 580) ∨ (r_1.toInt = 0 ∧ 580 < tv_length.toInt) := hw_1
  refine lv_if_ne (tgt := 12) hx hb dX11_feed_7 (by decide) (fun c_2 => ?_) (fun c_2 => ?_)
  · have tc_2 := t_neq c_2
    refine lv_aload_n hx hb dX11_feed_12 rfl (lv_at hl 0 rfl) ?_
    refine va_get (D := D) (ci := 10) (v := .ref a_tape) (C := RX11) (T := TX11) (N := 15) hx hb hts in_E_feed_X11 hown hK.1 hP 0 rfl rfl 2 (by decide) lk0 (fun _ h9 => h9) rfl dX11_feed_13 ?_
    refine lv_iload_n hx hb dX11_feed_16 rfl (lv_at hl 1 rfl) ?_
    have hPc := hP.sub (ws' := [(a_tape, .inr (8, [.ref ta_bytes, .int tv_length])), (ta_bytes, .inl (cB, 600, .inl tf_bytes))]) [1, 2] rfl
    refine rwVv (As := [.int xa]) (rest := []) (wc := [(a_tape, .inr (8, [.ref ta_bytes, .int tv_length])), (ta_bytes, .inl (cB, 600, .inl tf_bytes))]) (wr := [(h, .inr (10, [.ref a_bells, .ref a_feasts, .ref a_tape, .ref a_reader, .ref a_rules, .ref a_monks, .ref a_duties, .ref a_gifts, .ref a_figures, .int v_today, .int v_stock, .int v_guestHeads, .int v_guestRanks, .int v_faultPlace, .int v_candlesInAll]))]) S (p_put  (by omega) (by omega)) (cwV 1 hts gX11_feed_X9_put rfl rfl rfl ⟨rfl, hd_X9_put⟩ ⟨Nat.le_of_ble_eq_true rfl, Nat.le_of_ble_eq_true rfl⟩) hK hP hD hS hA [1, 2] [0] rfl rfl (by decide +kernel) (by decide +kernel) (by decide +kernel) (va_recv hK.1 hPc (ci := 8) (q0 := 0) rfl rfl) rfl hl.1 rfl (Nat.le_of_ble_eq_true rfl) dX11_feed_17 ⟨Nat.le_of_ble_eq_true rfl, Nat.le_of_ble_eq_true rfl⟩ (fun u_q0 H locs hw_q0 hP hD hS => ?_)
    obtain ⟨n1_q0, f1_q0⟩ := u_q0
    have hw_q0 : f1_q0 = fourF tf_bytes tv_length xa ∧ n1_q0 = l4F tv_length := hw_q0
    have hP : va_P D vwCl [(h, .inr (10, [.ref a_bells, .ref a_feasts, .ref a_tape, .ref a_reader, .ref a_rules, .ref a_monks, .ref a_duties, .ref a_gifts, .ref a_figures, .int v_today, .int v_stock, .int v_guestHeads, .int v_guestRanks, .int v_faultPlace, .int v_candlesInAll])), (a_tape, .inr (8, [.ref ta_bytes, .int n1_q0])), (ta_bytes, .inl (cB, 600, .inl f1_q0))] H := hP
    have hD := asD hP hD
    have l4_q0 := l4_toInt hw_q0.2 (by omega) (by omega)
    refine lv_aload_n hx hb dX11_feed_20 rfl (lv_at hl 0 rfl) ?_
    refine va_get (D := D) (ci := 10) (v := .ref a_tape) (C := RX11) (T := TX11) (N := 15) hx hb hts in_E_feed_X11 hown hK.1 hP 0 rfl rfl 2 (by decide) lk0 (fun _ h9 => h9) rfl dX11_feed_21 ?_
    refine lv_iload_n hx hb dX11_feed_24 rfl (lv_at hl 2 rfl) ?_
    have hPc := hP.sub (ws' := [(a_tape, .inr (8, [.ref ta_bytes, .int n1_q0])), (ta_bytes, .inl (cB, 600, .inl f1_q0))]) [1, 2] rfl
    refine rwVv (As := [.int xb]) (rest := []) (wc := [(a_tape, .inr (8, [.ref ta_bytes, .int n1_q0])), (ta_bytes, .inl (cB, 600, .inl f1_q0))]) (wr := [(h, .inr (10, [.ref a_bells, .ref a_feasts, .ref a_tape, .ref a_reader, .ref a_rules, .ref a_monks, .ref a_duties, .ref a_gifts, .ref a_figures, .int v_today, .int v_stock, .int v_guestHeads, .int v_guestRanks, .int v_faultPlace, .int v_candlesInAll]))]) S (p_put  (by omega) (by omega)) (cwV 1 hts gX11_feed_X9_put rfl rfl rfl ⟨rfl, hd_X9_put⟩ ⟨Nat.le_of_ble_eq_true rfl, Nat.le_of_ble_eq_true rfl⟩) hK hP hD hS hA [1, 2] [0] rfl rfl (by decide +kernel) (by decide +kernel) (by decide +kernel) (va_recv hK.1 hPc (ci := 8) (q0 := 0) rfl rfl) rfl hl.1 rfl (Nat.le_of_ble_eq_true rfl) dX11_feed_25 ⟨Nat.le_of_ble_eq_true rfl, Nat.le_of_ble_eq_true rfl⟩ (fun u_q1 H locs hw_q1 hP hD hS => ?_)
    obtain ⟨n1_q1, f1_q1⟩ := u_q1
    have hw_q1 : f1_q1 = fourF f1_q0 n1_q0 xb ∧ n1_q1 = l4F n1_q0 := hw_q1
    have hP : va_P D vwCl [(h, .inr (10, [.ref a_bells, .ref a_feasts, .ref a_tape, .ref a_reader, .ref a_rules, .ref a_monks, .ref a_duties, .ref a_gifts, .ref a_figures, .int v_today, .int v_stock, .int v_guestHeads, .int v_guestRanks, .int v_faultPlace, .int v_candlesInAll])), (a_tape, .inr (8, [.ref ta_bytes, .int n1_q1])), (ta_bytes, .inl (cB, 600, .inl f1_q1))] H := hP
    have hD := asD hP hD
    have l4_q1 := l4_toInt hw_q1.2 (by omega) (by omega)
    refine lv_aload_n hx hb dX11_feed_28 rfl (lv_at hl 0 rfl) ?_
    refine va_get (D := D) (ci := 10) (v := .ref a_tape) (C := RX11) (T := TX11) (N := 15) hx hb hts in_E_feed_X11 hown hK.1 hP 0 rfl rfl 2 (by decide) lk0 (fun _ h9 => h9) rfl dX11_feed_29 ?_
    refine lv_iload_n hx hb dX11_feed_32 rfl (lv_at hl 3 rfl) ?_
    have hPc := hP.sub (ws' := [(a_tape, .inr (8, [.ref ta_bytes, .int n1_q1])), (ta_bytes, .inl (cB, 600, .inl f1_q1))]) [1, 2] rfl
    refine rwVv (As := [.int xc]) (rest := []) (wc := [(a_tape, .inr (8, [.ref ta_bytes, .int n1_q1])), (ta_bytes, .inl (cB, 600, .inl f1_q1))]) (wr := [(h, .inr (10, [.ref a_bells, .ref a_feasts, .ref a_tape, .ref a_reader, .ref a_rules, .ref a_monks, .ref a_duties, .ref a_gifts, .ref a_figures, .int v_today, .int v_stock, .int v_guestHeads, .int v_guestRanks, .int v_faultPlace, .int v_candlesInAll]))]) S (p_put  (by omega) (by omega)) (cwV 1 hts gX11_feed_X9_put rfl rfl rfl ⟨rfl, hd_X9_put⟩ ⟨Nat.le_of_ble_eq_true rfl, Nat.le_of_ble_eq_true rfl⟩) hK hP hD hS hA [1, 2] [0] rfl rfl (by decide +kernel) (by decide +kernel) (by decide +kernel) (va_recv hK.1 hPc (ci := 8) (q0 := 0) rfl rfl) rfl hl.1 rfl (Nat.le_of_ble_eq_true rfl) dX11_feed_33 ⟨Nat.le_of_ble_eq_true rfl, Nat.le_of_ble_eq_true rfl⟩ (fun u_q2 H locs hw_q2 hP hD hS => ?_)
    obtain ⟨n1_q2, f1_q2⟩ := u_q2
    have hw_q2 : f1_q2 = fourF f1_q1 n1_q1 xc ∧ n1_q2 = l4F n1_q1 := hw_q2
    have hP : va_P D vwCl [(h, .inr (10, [.ref a_bells, .ref a_feasts, .ref a_tape, .ref a_reader, .ref a_rules, .ref a_monks, .ref a_duties, .ref a_gifts, .ref a_figures, .int v_today, .int v_stock, .int v_guestHeads, .int v_guestRanks, .int v_faultPlace, .int v_candlesInAll])), (a_tape, .inr (8, [.ref ta_bytes, .int n1_q2])), (ta_bytes, .inl (cB, 600, .inl f1_q2))] H := hP
    have hD := asD hP hD
    have l4_q2 := l4_toInt hw_q2.2 (by omega) (by omega)
    refine lv_aload_n hx hb dX11_feed_36 rfl (lv_at hl 0 rfl) ?_
    refine va_get (D := D) (ci := 10) (v := .ref a_tape) (C := RX11) (T := TX11) (N := 15) hx hb hts in_E_feed_X11 hown hK.1 hP 0 rfl rfl 2 (by decide) lk0 (fun _ h9 => h9) rfl dX11_feed_37 ?_
    refine lv_iload hx hb dX11_feed_40 (lv_at hl 4 rfl) ?_
    have hPc := hP.sub (ws' := [(a_tape, .inr (8, [.ref ta_bytes, .int n1_q2])), (ta_bytes, .inl (cB, 600, .inl f1_q2))]) [1, 2] rfl
    refine rwVv (As := [.int xd]) (rest := []) (wc := [(a_tape, .inr (8, [.ref ta_bytes, .int n1_q2])), (ta_bytes, .inl (cB, 600, .inl f1_q2))]) (wr := [(h, .inr (10, [.ref a_bells, .ref a_feasts, .ref a_tape, .ref a_reader, .ref a_rules, .ref a_monks, .ref a_duties, .ref a_gifts, .ref a_figures, .int v_today, .int v_stock, .int v_guestHeads, .int v_guestRanks, .int v_faultPlace, .int v_candlesInAll]))]) S (p_put  (by omega) (by omega)) (cwV 1 hts gX11_feed_X9_put rfl rfl rfl ⟨rfl, hd_X9_put⟩ ⟨Nat.le_of_ble_eq_true rfl, Nat.le_of_ble_eq_true rfl⟩) hK hP hD hS hA [1, 2] [0] rfl rfl (by decide +kernel) (by decide +kernel) (by decide +kernel) (va_recv hK.1 hPc (ci := 8) (q0 := 0) rfl rfl) rfl hl.1 rfl (Nat.le_of_ble_eq_true rfl) dX11_feed_42 ⟨Nat.le_of_ble_eq_true rfl, Nat.le_of_ble_eq_true rfl⟩ (fun u_q3 H locs hw_q3 hP hD hS => ?_)
    obtain ⟨n1_q3, f1_q3⟩ := u_q3
    have hw_q3 : f1_q3 = fourF f1_q2 n1_q2 xd ∧ n1_q3 = l4F n1_q2 := hw_q3
    have hP : va_P D vwCl [(h, .inr (10, [.ref a_bells, .ref a_feasts, .ref a_tape, .ref a_reader, .ref a_rules, .ref a_monks, .ref a_duties, .ref a_gifts, .ref a_figures, .int v_today, .int v_stock, .int v_guestHeads, .int v_guestRanks, .int v_faultPlace, .int v_candlesInAll])), (a_tape, .inr (8, [.ref ta_bytes, .int n1_q3])), (ta_bytes, .inl (cB, 600, .inl f1_q3))] H := hP
    have hD := asD hP hD
    have l4_q3 := l4_toInt hw_q3.2 (by omega) (by omega)
    refine lv_aload_n hx hb dX11_feed_45 rfl (lv_at hl 0 rfl) ?_
    refine va_get (D := D) (ci := 10) (v := .ref a_tape) (C := RX11) (T := TX11) (N := 15) hx hb hts in_E_feed_X11 hown hK.1 hP 0 rfl rfl 2 (by decide) lk0 (fun _ h9 => h9) rfl dX11_feed_46 ?_
    refine lv_iload hx hb dX11_feed_49 (lv_at hl 5 rfl) ?_
    have hPc := hP.sub (ws' := [(a_tape, .inr (8, [.ref ta_bytes, .int n1_q3])), (ta_bytes, .inl (cB, 600, .inl f1_q3))]) [1, 2] rfl
    refine rwVv (As := [.int xe]) (rest := []) (wc := [(a_tape, .inr (8, [.ref ta_bytes, .int n1_q3])), (ta_bytes, .inl (cB, 600, .inl f1_q3))]) (wr := [(h, .inr (10, [.ref a_bells, .ref a_feasts, .ref a_tape, .ref a_reader, .ref a_rules, .ref a_monks, .ref a_duties, .ref a_gifts, .ref a_figures, .int v_today, .int v_stock, .int v_guestHeads, .int v_guestRanks, .int v_faultPlace, .int v_candlesInAll]))]) S (p_put  (by omega) (by omega)) (cwV 1 hts gX11_feed_X9_put rfl rfl rfl ⟨rfl, hd_X9_put⟩ ⟨Nat.le_of_ble_eq_true rfl, Nat.le_of_ble_eq_true rfl⟩) hK hP hD hS hA [1, 2] [0] rfl rfl (by decide +kernel) (by decide +kernel) (by decide +kernel) (va_recv hK.1 hPc (ci := 8) (q0 := 0) rfl rfl) rfl hl.1 rfl (Nat.le_of_ble_eq_true rfl) dX11_feed_51 ⟨Nat.le_of_ble_eq_true rfl, Nat.le_of_ble_eq_true rfl⟩ (fun u_q4 H locs hw_q4 hP hD hS => ?_)
    obtain ⟨n1_q4, f1_q4⟩ := u_q4
    have hw_q4 : f1_q4 = fourF f1_q3 n1_q3 xe ∧ n1_q4 = l4F n1_q3 := hw_q4
    have hP : va_P D vwCl [(h, .inr (10, [.ref a_bells, .ref a_feasts, .ref a_tape, .ref a_reader, .ref a_rules, .ref a_monks, .ref a_duties, .ref a_gifts, .ref a_figures, .int v_today, .int v_stock, .int v_guestHeads, .int v_guestRanks, .int v_faultPlace, .int v_candlesInAll])), (a_tape, .inr (8, [.ref ta_bytes, .int n1_q4])), (ta_bytes, .inl (cB, 600, .inl f1_q4))] H := hP
    have hD := asD hP hD
    have l4_q4 := l4_toInt hw_q4.2 (by omega) (by omega)
    refine lv_aload_n hx hb dX11_feed_54 rfl (lv_at hl 0 rfl) ?_
    refine va_get (D := D) (ci := 10) (v := .ref a_tape) (C := RX11) (T := TX11) (N := 15) hx hb hts in_E_feed_X11 hown hK.1 hP 0 rfl rfl 2 (by decide) lk0 (fun _ h9 => h9) rfl dX11_feed_55 ?_
    have hPc := hP.sub (ws' := [(a_tape, .inr (8, [.ref ta_bytes, .int n1_q4]))]) [1] rfl
    refine roV (As := []) (rest := []) S (t_length  ) (cwV 0 hts gX11_feed_X9_length rfl rfl rfl ⟨rfl, hd_X9_length⟩ ⟨Nat.le_of_ble_eq_true rfl, Nat.le_of_ble_eq_true rfl⟩) hK hPc (va_recv hK.1 hPc (ci := 8) (q0 := 0) rfl rfl) rfl hl.1 rfl (Nat.le_of_ble_eq_true rfl) dX11_feed_58 ⟨Nat.le_of_ble_eq_true rfl, Nat.le_of_ble_eq_true rfl⟩ (fun r_3 hw_3 => ?_)
    have hw_3 : r_3 = n1_q4 := hw_3
    have hw_3 := t_eq hw_3
    exact hret r_3 (n1_q4, f1_q4) _ _ _ _ (show ((tv_length.toInt ≤ 580) ∧ r_3.toInt = tv_length.toInt + 20 ∧ n1_q4 = l20F tv_length ∧ f1_q4 = feedB tf_bytes tv_length xa xb xc xd xe) ∨ (¬ (tv_length.toInt ≤ 580) ∧ r_3.toInt = -1 ∧ n1_q4 = tv_length ∧ f1_q4 = tf_bytes) from by first | exact Or.inl ⟨by omega, by omega, by rw [hw_q4.2, hw_q3.2, hw_q2.2, hw_q1.2, hw_q0.2]; rfl, by rw [hw_q4.1, hw_q3.1, hw_q2.1, hw_q1.1, hw_q0.1, hw_q3.2, hw_q2.2, hw_q1.2, hw_q0.2]; rfl⟩ | exact Or.inr ⟨by omega, by omega, rfl, rfl⟩) rfl (hP.sub [0, 1, 2] rfl) (hD.sub [0, 1, 2] (by decide +kernel) rfl) hS dX11_feed_61
  · have tc_2 := t_eq c_2
    refine lv_iconst (v := (-1)) hx hb dX11_feed_10 (by decide) ?_
    exact hret (-1) (tv_length, tf_bytes) _ _ _ _ (show ((tv_length.toInt ≤ 580) ∧ (-1 : Int32).toInt = tv_length.toInt + 20 ∧ tv_length = l20F tv_length ∧ tf_bytes = feedB tf_bytes tv_length xa xb xc xd xe) ∨ (¬ (tv_length.toInt ≤ 580) ∧ (-1 : Int32).toInt = -1 ∧ tv_length = tv_length ∧ tf_bytes = tf_bytes) from by first | exact Or.inl ⟨by omega, by omega, by rw [hw_q4.2, hw_q3.2, hw_q2.2, hw_q1.2, hw_q0.2]; rfl, by rw [hw_q4.1, hw_q3.1, hw_q2.1, hw_q1.1, hw_q0.1, hw_q3.2, hw_q2.2, hw_q1.2, hw_q0.2]; rfl⟩ | exact Or.inr ⟨by omega, by omega, rfl, rfl⟩) rfl (hP.sub [0, 1, 2] rfl) (hD.sub [0, 1, 2] (by decide +kernel) rfl) hS dX11_feed_11

theorem in_M_feed_X12 : ∀ w ∈ wsX120, w ∈ wsX12_feed := tl_X12_feed_X12
set_option maxHeartbeats 8000000 in
set_option maxRecDepth 100000 in
theorem M_feed {l : Launch} {D : va_G} {cI cZ cB : ClassId} {sz : Nat} {h a_isPriest a_bars a_joined a_turns a_awayMonk a_awayFrom a_awayTo a_feastDay a_rank a_isWeekly a_isDouble a_giftDay a_giftFrom a_owed a_said a_spared a_leaveGift a_leaveFrom a_leaveTo a_lateDay a_lateOffice a_lateBy a_guests a_who a_used a_lacks a_candles a_masses a_owing a_heldOn a_waits a_tape a_text a_statements a_taken a_sort a_first a_second : Nat} {v_today v_monks v_aways v_feasts v_gifts v_leaves v_lates v_store v_allCandles v_taped v_size v_at v_fault v_rules v_wordEnd v_number : Int32} {f_tape : Nat → Int32} {xa xb xc xd xe : Int32} (h0_taped : 0 ≤ v_taped.toInt) (h1_taped : v_taped.toInt ≤ 600) : Met l yX12_feed wsX12_feed ({ frames := 1, cells := 0, slots := 0, locals := 22 }) (RW D cI cZ cB [.ref h, .int xa, .int xb, .int xc, .int xd, .int xe] sz [(h, .inr (11, [.int v_today, .int v_monks, .int v_aways, .int v_feasts, .int v_gifts, .int v_leaves, .int v_lates, .int v_store, .int v_allCandles, .ref a_isPriest, .ref a_bars, .ref a_joined, .ref a_turns, .ref a_awayMonk, .ref a_awayFrom, .ref a_awayTo, .ref a_feastDay, .ref a_rank, .ref a_isWeekly, .ref a_isDouble, .ref a_giftDay, .ref a_giftFrom, .ref a_owed, .ref a_said, .ref a_spared, .ref a_leaveGift, .ref a_leaveFrom, .ref a_leaveTo, .ref a_lateDay, .ref a_lateOffice, .ref a_lateBy, .ref a_guests, .ref a_who, .ref a_used, .ref a_lacks, .ref a_candles, .ref a_masses, .ref a_owing, .ref a_heldOn, .ref a_waits, .ref a_tape, .ref a_text, .int v_taped, .int v_size, .int v_at, .int v_fault, .int v_rules, .ref a_statements, .ref a_taken, .ref a_sort, .ref a_first, .ref a_second, .int v_wordEnd, .int v_number])), (a_tape, .inl (cB, 600, .inl f_tape))]) (va_Qi (fun (r : Int32) (u : Int32 × (Nat → Int32)) => ((v_taped.toInt ≤ 580) ∧ r.toInt = v_taped.toInt + 20 ∧ u.1 = l20F v_taped ∧ u.2 = feedB f_tape v_taped xa xb xc xd xe) ∨ (¬ (v_taped.toInt ≤ 580) ∧ r.toInt = -1 ∧ u.1 = v_taped ∧ u.2 = f_tape)) (BW D [(h, .inr (11, [.int v_today, .int v_monks, .int v_aways, .int v_feasts, .int v_gifts, .int v_leaves, .int v_lates, .int v_store, .int v_allCandles, .ref a_isPriest, .ref a_bars, .ref a_joined, .ref a_turns, .ref a_awayMonk, .ref a_awayFrom, .ref a_awayTo, .ref a_feastDay, .ref a_rank, .ref a_isWeekly, .ref a_isDouble, .ref a_giftDay, .ref a_giftFrom, .ref a_owed, .ref a_said, .ref a_spared, .ref a_leaveGift, .ref a_leaveFrom, .ref a_leaveTo, .ref a_lateDay, .ref a_lateOffice, .ref a_lateBy, .ref a_guests, .ref a_who, .ref a_used, .ref a_lacks, .ref a_candles, .ref a_masses, .ref a_owing, .ref a_heldOn, .ref a_waits, .ref a_tape, .ref a_text, .int v_taped, .int v_size, .int v_at, .int v_fault, .int v_rules, .ref a_statements, .ref a_taken, .ref a_sort, .ref a_first, .ref a_second, .int v_wordEnd, .int v_number])), (a_tape, .inl (cB, 600, .inl f_tape))] sz (fun u : Int32 × (Nat → Int32) => [(h, .inr (11, [.int v_today, .int v_monks, .int v_aways, .int v_feasts, .int v_gifts, .int v_leaves, .int v_lates, .int v_store, .int v_allCandles, .ref a_isPriest, .ref a_bars, .ref a_joined, .ref a_turns, .ref a_awayMonk, .ref a_awayFrom, .ref a_awayTo, .ref a_feastDay, .ref a_rank, .ref a_isWeekly, .ref a_isDouble, .ref a_giftDay, .ref a_giftFrom, .ref a_owed, .ref a_said, .ref a_spared, .ref a_leaveGift, .ref a_leaveFrom, .ref a_leaveTo, .ref a_lateDay, .ref a_lateOffice, .ref a_lateBy, .ref a_guests, .ref a_who, .ref a_used, .ref a_lacks, .ref a_candles, .ref a_masses, .ref a_owing, .ref a_heldOn, .ref a_waits, .ref a_tape, .ref a_text, .int u.1, .int v_size, .int v_at, .int v_fault, .int v_rules, .ref a_statements, .ref a_taken, .ref a_sort, .ref a_first, .ref a_second, .int v_wordEnd, .int v_number])), (a_tape, .inl (cB, 600, .inl u.2))])) (va_A [(h, .inr (11, [.int v_today, .int v_monks, .int v_aways, .int v_feasts, .int v_gifts, .int v_leaves, .int v_lates, .int v_store, .int v_allCandles, .ref a_isPriest, .ref a_bars, .ref a_joined, .ref a_turns, .ref a_awayMonk, .ref a_awayFrom, .ref a_awayTo, .ref a_feastDay, .ref a_rank, .ref a_isWeekly, .ref a_isDouble, .ref a_giftDay, .ref a_giftFrom, .ref a_owed, .ref a_said, .ref a_spared, .ref a_leaveGift, .ref a_leaveFrom, .ref a_leaveTo, .ref a_lateDay, .ref a_lateOffice, .ref a_lateBy, .ref a_guests, .ref a_who, .ref a_used, .ref a_lacks, .ref a_candles, .ref a_masses, .ref a_owing, .ref a_heldOn, .ref a_waits, .ref a_tape, .ref a_text, .int v_taped, .int v_size, .int v_at, .int v_fault, .int v_rules, .ref a_statements, .ref a_taken, .ref a_sort, .ref a_first, .ref a_second, .int v_wordEnd, .int v_number])), (a_tape, .inl (cB, 600, .inl f_tape))] sz)) 0 (0) (va_A [(h, .inr (11, [.int v_today, .int v_monks, .int v_aways, .int v_feasts, .int v_gifts, .int v_leaves, .int v_lates, .int v_store, .int v_allCandles, .ref a_isPriest, .ref a_bars, .ref a_joined, .ref a_turns, .ref a_awayMonk, .ref a_awayFrom, .ref a_awayTo, .ref a_feastDay, .ref a_rank, .ref a_isWeekly, .ref a_isDouble, .ref a_giftDay, .ref a_giftFrom, .ref a_owed, .ref a_said, .ref a_spared, .ref a_leaveGift, .ref a_leaveFrom, .ref a_leaveTo, .ref a_lateDay, .ref a_lateOffice, .ref a_lateBy, .ref a_guests, .ref a_who, .ref a_used, .ref a_lacks, .ref a_candles, .ref a_masses, .ref a_owing, .ref a_heldOn, .ref a_waits, .ref a_tape, .ref a_text, .int v_taped, .int v_size, .int v_at, .int v_fault, .int v_rules, .ref a_statements, .ref a_taken, .ref a_sort, .ref a_first, .ref a_second, .int v_wordEnd, .int v_number])), (a_tape, .inl (cB, 600, .inl f_tape))] sz) := by
  refine rw_ret (cc := cX12_feed) (maxL := 6) (ty := .int) (own := RX12) (by decide) rfl rfl (Nat.le_of_ble_eq_true rfl) ?_
  intro p e s m args below meth c Q A S hin hret hP hK hD hA hS ls hl
  obtain ⟨hx, hb, hml, hown, hts⟩ := id S
  have hl : lv_has ls 6 [(0, .ref h), (1, .int xa), (2, .int xb), (3, .int xc), (4, .int xd), (5, .int xe)] := hl
  have kkm1 : (-1 : Int32).toInt = -1 := by decide
  have kk0 : (0 : Int32).toInt = 0 := by decide
  have kk20 : (20 : Int32).toInt = 20 := by decide
  have kk600 : (600 : Int32).toInt = 600 := by decide
  have lk0 := hts (.fieldLink RX12 185 "AbbeyHoursModel" "taped" "I") (List.mem_cons_of_mem _ (List.mem_append_left _ (List.mem_of_getElem? (i := 0) rfl)))
  refine lv_aload_n hx hb dX12_feed_0 rfl (lv_at hl 0 rfl) ?_
  refine va_get (D := D) (ci := 11) (v := .int v_taped) (C := RX12) (T := TX12) (N := 54) hx hb hts in_M_feed_X12 hown hK.1 hP 0 rfl rfl 42 (by decide) lk0 (fun _ h9 => h9) rfl dX12_feed_1 ?_
  refine lv_bipush (v := 20) hx hb dX12_feed_4 (by decide) ?_
  refine lv_iadd hx hb dX12_feed_6 ?_
  refine lv_topi (fun x_1 ex_1 => ?_)
  first | have tx_1 := t_add ex_1 (by omega) (by omega) | skip
  refine lv_sipush (v := 600) hx hb dX12_feed_7 (by decide) ?_
  refine lv_icmp_le (tgt := 15) hx hb dX12_feed_10 (by decide) (fun c_2 => ?_) (fun c_2 => ?_)
  · have tc_2 := t_le c_2
    refine lv_aload_n hx hb dX12_feed_15 rfl (lv_at hl 0 rfl) ?_
    refine lv_iload_n hx hb dX12_feed_16 rfl (lv_at hl 1 rfl) ?_
    have hPc := hP.sub (ws' := [(h, .inr (11, [.int v_today, .int v_monks, .int v_aways, .int v_feasts, .int v_gifts, .int v_leaves, .int v_lates, .int v_store, .int v_allCandles, .ref a_isPriest, .ref a_bars, .ref a_joined, .ref a_turns, .ref a_awayMonk, .ref a_awayFrom, .ref a_awayTo, .ref a_feastDay, .ref a_rank, .ref a_isWeekly, .ref a_isDouble, .ref a_giftDay, .ref a_giftFrom, .ref a_owed, .ref a_said, .ref a_spared, .ref a_leaveGift, .ref a_leaveFrom, .ref a_leaveTo, .ref a_lateDay, .ref a_lateOffice, .ref a_lateBy, .ref a_guests, .ref a_who, .ref a_used, .ref a_lacks, .ref a_candles, .ref a_masses, .ref a_owing, .ref a_heldOn, .ref a_waits, .ref a_tape, .ref a_text, .int v_taped, .int v_size, .int v_at, .int v_fault, .int v_rules, .ref a_statements, .ref a_taken, .ref a_sort, .ref a_first, .ref a_second, .int v_wordEnd, .int v_number])), (a_tape, .inl (cB, 600, .inl f_tape))]) [0, 1] rfl
    refine rwVv (As := [.int xa]) (rest := []) (wc := [(h, .inr (11, [.int v_today, .int v_monks, .int v_aways, .int v_feasts, .int v_gifts, .int v_leaves, .int v_lates, .int v_store, .int v_allCandles, .ref a_isPriest, .ref a_bars, .ref a_joined, .ref a_turns, .ref a_awayMonk, .ref a_awayFrom, .ref a_awayTo, .ref a_feastDay, .ref a_rank, .ref a_isWeekly, .ref a_isDouble, .ref a_giftDay, .ref a_giftFrom, .ref a_owed, .ref a_said, .ref a_spared, .ref a_leaveGift, .ref a_leaveFrom, .ref a_leaveTo, .ref a_lateDay, .ref a_lateOffice, .ref a_lateBy, .ref a_guests, .ref a_who, .ref a_used, .ref a_lacks, .ref a_candles, .ref a_masses, .ref a_owing, .ref a_heldOn, .ref a_waits, .ref a_tape, .ref a_text, .int v_taped, .int v_size, .int v_at, .int v_fault, .int v_rules, .ref a_statements, .ref a_taken, .ref a_sort, .ref a_first, .ref a_second, .int v_wordEnd, .int v_number])), (a_tape, .inl (cB, 600, .inl f_tape))]) (wr := []) S (p_four  (by omega) (by omega)) (cwV 1 hts gX12_feed_X12_four rfl rfl rfl ⟨rfl, hd_X12_four⟩ ⟨Nat.le_of_ble_eq_true rfl, Nat.le_of_ble_eq_true rfl⟩) hK hP hD hS hA [0, 1] [] rfl rfl (by decide +kernel) (by decide +kernel) (by decide +kernel) (va_recv hK.1 hPc (ci := 11) (q0 := 0) rfl rfl) rfl hl.1 rfl (Nat.le_of_ble_eq_true rfl) dX12_feed_17 ⟨Nat.le_of_ble_eq_true rfl, Nat.le_of_ble_eq_true rfl⟩ (fun u_q0 H locs hw_q0 hP hD hS => ?_)
    obtain ⟨n1_q0, f1_q0⟩ := u_q0
    have hw_q0 : f1_q0 = fourF f_tape v_taped xa ∧ n1_q0 = l4F v_taped := hw_q0
    have hP : va_P D vwCl [(h, .inr (11, [.int v_today, .int v_monks, .int v_aways, .int v_feasts, .int v_gifts, .int v_leaves, .int v_lates, .int v_store, .int v_allCandles, .ref a_isPriest, .ref a_bars, .ref a_joined, .ref a_turns, .ref a_awayMonk, .ref a_awayFrom, .ref a_awayTo, .ref a_feastDay, .ref a_rank, .ref a_isWeekly, .ref a_isDouble, .ref a_giftDay, .ref a_giftFrom, .ref a_owed, .ref a_said, .ref a_spared, .ref a_leaveGift, .ref a_leaveFrom, .ref a_leaveTo, .ref a_lateDay, .ref a_lateOffice, .ref a_lateBy, .ref a_guests, .ref a_who, .ref a_used, .ref a_lacks, .ref a_candles, .ref a_masses, .ref a_owing, .ref a_heldOn, .ref a_waits, .ref a_tape, .ref a_text, .int n1_q0, .int v_size, .int v_at, .int v_fault, .int v_rules, .ref a_statements, .ref a_taken, .ref a_sort, .ref a_first, .ref a_second, .int v_wordEnd, .int v_number])), (a_tape, .inl (cB, 600, .inl f1_q0))] H := hP
    have hD := asD hP hD
    have l4_q0 := l4_toInt hw_q0.2 (by omega) (by omega)
    refine lv_aload_n hx hb dX12_feed_20 rfl (lv_at hl 0 rfl) ?_
    refine lv_iload_n hx hb dX12_feed_21 rfl (lv_at hl 2 rfl) ?_
    have hPc := hP.sub (ws' := [(h, .inr (11, [.int v_today, .int v_monks, .int v_aways, .int v_feasts, .int v_gifts, .int v_leaves, .int v_lates, .int v_store, .int v_allCandles, .ref a_isPriest, .ref a_bars, .ref a_joined, .ref a_turns, .ref a_awayMonk, .ref a_awayFrom, .ref a_awayTo, .ref a_feastDay, .ref a_rank, .ref a_isWeekly, .ref a_isDouble, .ref a_giftDay, .ref a_giftFrom, .ref a_owed, .ref a_said, .ref a_spared, .ref a_leaveGift, .ref a_leaveFrom, .ref a_leaveTo, .ref a_lateDay, .ref a_lateOffice, .ref a_lateBy, .ref a_guests, .ref a_who, .ref a_used, .ref a_lacks, .ref a_candles, .ref a_masses, .ref a_owing, .ref a_heldOn, .ref a_waits, .ref a_tape, .ref a_text, .int n1_q0, .int v_size, .int v_at, .int v_fault, .int v_rules, .ref a_statements, .ref a_taken, .ref a_sort, .ref a_first, .ref a_second, .int v_wordEnd, .int v_number])), (a_tape, .inl (cB, 600, .inl f1_q0))]) [0, 1] rfl
    refine rwVv (As := [.int xb]) (rest := []) (wc := [(h, .inr (11, [.int v_today, .int v_monks, .int v_aways, .int v_feasts, .int v_gifts, .int v_leaves, .int v_lates, .int v_store, .int v_allCandles, .ref a_isPriest, .ref a_bars, .ref a_joined, .ref a_turns, .ref a_awayMonk, .ref a_awayFrom, .ref a_awayTo, .ref a_feastDay, .ref a_rank, .ref a_isWeekly, .ref a_isDouble, .ref a_giftDay, .ref a_giftFrom, .ref a_owed, .ref a_said, .ref a_spared, .ref a_leaveGift, .ref a_leaveFrom, .ref a_leaveTo, .ref a_lateDay, .ref a_lateOffice, .ref a_lateBy, .ref a_guests, .ref a_who, .ref a_used, .ref a_lacks, .ref a_candles, .ref a_masses, .ref a_owing, .ref a_heldOn, .ref a_waits, .ref a_tape, .ref a_text, .int n1_q0, .int v_size, .int v_at, .int v_fault, .int v_rules, .ref a_statements, .ref a_taken, .ref a_sort, .ref a_first, .ref a_second, .int v_wordEnd, .int v_number])), (a_tape, .inl (cB, 600, .inl f1_q0))]) (wr := []) S (p_four  (by omega) (by omega)) (cwV 1 hts gX12_feed_X12_four rfl rfl rfl ⟨rfl, hd_X12_four⟩ ⟨Nat.le_of_ble_eq_true rfl, Nat.le_of_ble_eq_true rfl⟩) hK hP hD hS hA [0, 1] [] rfl rfl (by decide +kernel) (by decide +kernel) (by decide +kernel) (va_recv hK.1 hPc (ci := 11) (q0 := 0) rfl rfl) rfl hl.1 rfl (Nat.le_of_ble_eq_true rfl) dX12_feed_22 ⟨Nat.le_of_ble_eq_true rfl, Nat.le_of_ble_eq_true rfl⟩ (fun u_q1 H locs hw_q1 hP hD hS => ?_)
    obtain ⟨n1_q1, f1_q1⟩ := u_q1
    have hw_q1 : f1_q1 = fourF f1_q0 n1_q0 xb ∧ n1_q1 = l4F n1_q0 := hw_q1
    have hP : va_P D vwCl [(h, .inr (11, [.int v_today, .int v_monks, .int v_aways, .int v_feasts, .int v_gifts, .int v_leaves, .int v_lates, .int v_store, .int v_allCandles, .ref a_isPriest, .ref a_bars, .ref a_joined, .ref a_turns, .ref a_awayMonk, .ref a_awayFrom, .ref a_awayTo, .ref a_feastDay, .ref a_rank, .ref a_isWeekly, .ref a_isDouble, .ref a_giftDay, .ref a_giftFrom, .ref a_owed, .ref a_said, .ref a_spared, .ref a_leaveGift, .ref a_leaveFrom, .ref a_leaveTo, .ref a_lateDay, .ref a_lateOffice, .ref a_lateBy, .ref a_guests, .ref a_who, .ref a_used, .ref a_lacks, .ref a_candles, .ref a_masses, .ref a_owing, .ref a_heldOn, .ref a_waits, .ref a_tape, .ref a_text, .int n1_q1, .int v_size, .int v_at, .int v_fault, .int v_rules, .ref a_statements, .ref a_taken, .ref a_sort, .ref a_first, .ref a_second, .int v_wordEnd, .int v_number])), (a_tape, .inl (cB, 600, .inl f1_q1))] H := hP
    have hD := asD hP hD
    have l4_q1 := l4_toInt hw_q1.2 (by omega) (by omega)
    refine lv_aload_n hx hb dX12_feed_25 rfl (lv_at hl 0 rfl) ?_
    refine lv_iload_n hx hb dX12_feed_26 rfl (lv_at hl 3 rfl) ?_
    have hPc := hP.sub (ws' := [(h, .inr (11, [.int v_today, .int v_monks, .int v_aways, .int v_feasts, .int v_gifts, .int v_leaves, .int v_lates, .int v_store, .int v_allCandles, .ref a_isPriest, .ref a_bars, .ref a_joined, .ref a_turns, .ref a_awayMonk, .ref a_awayFrom, .ref a_awayTo, .ref a_feastDay, .ref a_rank, .ref a_isWeekly, .ref a_isDouble, .ref a_giftDay, .ref a_giftFrom, .ref a_owed, .ref a_said, .ref a_spared, .ref a_leaveGift, .ref a_leaveFrom, .ref a_leaveTo, .ref a_lateDay, .ref a_lateOffice, .ref a_lateBy, .ref a_guests, .ref a_who, .ref a_used, .ref a_lacks, .ref a_candles, .ref a_masses, .ref a_owing, .ref a_heldOn, .ref a_waits, .ref a_tape, .ref a_text, .int n1_q1, .int v_size, .int v_at, .int v_fault, .int v_rules, .ref a_statements, .ref a_taken, .ref a_sort, .ref a_first, .ref a_second, .int v_wordEnd, .int v_number])), (a_tape, .inl (cB, 600, .inl f1_q1))]) [0, 1] rfl
    refine rwVv (As := [.int xc]) (rest := []) (wc := [(h, .inr (11, [.int v_today, .int v_monks, .int v_aways, .int v_feasts, .int v_gifts, .int v_leaves, .int v_lates, .int v_store, .int v_allCandles, .ref a_isPriest, .ref a_bars, .ref a_joined, .ref a_turns, .ref a_awayMonk, .ref a_awayFrom, .ref a_awayTo, .ref a_feastDay, .ref a_rank, .ref a_isWeekly, .ref a_isDouble, .ref a_giftDay, .ref a_giftFrom, .ref a_owed, .ref a_said, .ref a_spared, .ref a_leaveGift, .ref a_leaveFrom, .ref a_leaveTo, .ref a_lateDay, .ref a_lateOffice, .ref a_lateBy, .ref a_guests, .ref a_who, .ref a_used, .ref a_lacks, .ref a_candles, .ref a_masses, .ref a_owing, .ref a_heldOn, .ref a_waits, .ref a_tape, .ref a_text, .int n1_q1, .int v_size, .int v_at, .int v_fault, .int v_rules, .ref a_statements, .ref a_taken, .ref a_sort, .ref a_first, .ref a_second, .int v_wordEnd, .int v_number])), (a_tape, .inl (cB, 600, .inl f1_q1))]) (wr := []) S (p_four  (by omega) (by omega)) (cwV 1 hts gX12_feed_X12_four rfl rfl rfl ⟨rfl, hd_X12_four⟩ ⟨Nat.le_of_ble_eq_true rfl, Nat.le_of_ble_eq_true rfl⟩) hK hP hD hS hA [0, 1] [] rfl rfl (by decide +kernel) (by decide +kernel) (by decide +kernel) (va_recv hK.1 hPc (ci := 11) (q0 := 0) rfl rfl) rfl hl.1 rfl (Nat.le_of_ble_eq_true rfl) dX12_feed_27 ⟨Nat.le_of_ble_eq_true rfl, Nat.le_of_ble_eq_true rfl⟩ (fun u_q2 H locs hw_q2 hP hD hS => ?_)
    obtain ⟨n1_q2, f1_q2⟩ := u_q2
    have hw_q2 : f1_q2 = fourF f1_q1 n1_q1 xc ∧ n1_q2 = l4F n1_q1 := hw_q2
    have hP : va_P D vwCl [(h, .inr (11, [.int v_today, .int v_monks, .int v_aways, .int v_feasts, .int v_gifts, .int v_leaves, .int v_lates, .int v_store, .int v_allCandles, .ref a_isPriest, .ref a_bars, .ref a_joined, .ref a_turns, .ref a_awayMonk, .ref a_awayFrom, .ref a_awayTo, .ref a_feastDay, .ref a_rank, .ref a_isWeekly, .ref a_isDouble, .ref a_giftDay, .ref a_giftFrom, .ref a_owed, .ref a_said, .ref a_spared, .ref a_leaveGift, .ref a_leaveFrom, .ref a_leaveTo, .ref a_lateDay, .ref a_lateOffice, .ref a_lateBy, .ref a_guests, .ref a_who, .ref a_used, .ref a_lacks, .ref a_candles, .ref a_masses, .ref a_owing, .ref a_heldOn, .ref a_waits, .ref a_tape, .ref a_text, .int n1_q2, .int v_size, .int v_at, .int v_fault, .int v_rules, .ref a_statements, .ref a_taken, .ref a_sort, .ref a_first, .ref a_second, .int v_wordEnd, .int v_number])), (a_tape, .inl (cB, 600, .inl f1_q2))] H := hP
    have hD := asD hP hD
    have l4_q2 := l4_toInt hw_q2.2 (by omega) (by omega)
    refine lv_aload_n hx hb dX12_feed_30 rfl (lv_at hl 0 rfl) ?_
    refine lv_iload hx hb dX12_feed_31 (lv_at hl 4 rfl) ?_
    have hPc := hP.sub (ws' := [(h, .inr (11, [.int v_today, .int v_monks, .int v_aways, .int v_feasts, .int v_gifts, .int v_leaves, .int v_lates, .int v_store, .int v_allCandles, .ref a_isPriest, .ref a_bars, .ref a_joined, .ref a_turns, .ref a_awayMonk, .ref a_awayFrom, .ref a_awayTo, .ref a_feastDay, .ref a_rank, .ref a_isWeekly, .ref a_isDouble, .ref a_giftDay, .ref a_giftFrom, .ref a_owed, .ref a_said, .ref a_spared, .ref a_leaveGift, .ref a_leaveFrom, .ref a_leaveTo, .ref a_lateDay, .ref a_lateOffice, .ref a_lateBy, .ref a_guests, .ref a_who, .ref a_used, .ref a_lacks, .ref a_candles, .ref a_masses, .ref a_owing, .ref a_heldOn, .ref a_waits, .ref a_tape, .ref a_text, .int n1_q2, .int v_size, .int v_at, .int v_fault, .int v_rules, .ref a_statements, .ref a_taken, .ref a_sort, .ref a_first, .ref a_second, .int v_wordEnd, .int v_number])), (a_tape, .inl (cB, 600, .inl f1_q2))]) [0, 1] rfl
    refine rwVv (As := [.int xd]) (rest := []) (wc := [(h, .inr (11, [.int v_today, .int v_monks, .int v_aways, .int v_feasts, .int v_gifts, .int v_leaves, .int v_lates, .int v_store, .int v_allCandles, .ref a_isPriest, .ref a_bars, .ref a_joined, .ref a_turns, .ref a_awayMonk, .ref a_awayFrom, .ref a_awayTo, .ref a_feastDay, .ref a_rank, .ref a_isWeekly, .ref a_isDouble, .ref a_giftDay, .ref a_giftFrom, .ref a_owed, .ref a_said, .ref a_spared, .ref a_leaveGift, .ref a_leaveFrom, .ref a_leaveTo, .ref a_lateDay, .ref a_lateOffice, .ref a_lateBy, .ref a_guests, .ref a_who, .ref a_used, .ref a_lacks, .ref a_candles, .ref a_masses, .ref a_owing, .ref a_heldOn, .ref a_waits, .ref a_tape, .ref a_text, .int n1_q2, .int v_size, .int v_at, .int v_fault, .int v_rules, .ref a_statements, .ref a_taken, .ref a_sort, .ref a_first, .ref a_second, .int v_wordEnd, .int v_number])), (a_tape, .inl (cB, 600, .inl f1_q2))]) (wr := []) S (p_four  (by omega) (by omega)) (cwV 1 hts gX12_feed_X12_four rfl rfl rfl ⟨rfl, hd_X12_four⟩ ⟨Nat.le_of_ble_eq_true rfl, Nat.le_of_ble_eq_true rfl⟩) hK hP hD hS hA [0, 1] [] rfl rfl (by decide +kernel) (by decide +kernel) (by decide +kernel) (va_recv hK.1 hPc (ci := 11) (q0 := 0) rfl rfl) rfl hl.1 rfl (Nat.le_of_ble_eq_true rfl) dX12_feed_33 ⟨Nat.le_of_ble_eq_true rfl, Nat.le_of_ble_eq_true rfl⟩ (fun u_q3 H locs hw_q3 hP hD hS => ?_)
    obtain ⟨n1_q3, f1_q3⟩ := u_q3
    have hw_q3 : f1_q3 = fourF f1_q2 n1_q2 xd ∧ n1_q3 = l4F n1_q2 := hw_q3
    have hP : va_P D vwCl [(h, .inr (11, [.int v_today, .int v_monks, .int v_aways, .int v_feasts, .int v_gifts, .int v_leaves, .int v_lates, .int v_store, .int v_allCandles, .ref a_isPriest, .ref a_bars, .ref a_joined, .ref a_turns, .ref a_awayMonk, .ref a_awayFrom, .ref a_awayTo, .ref a_feastDay, .ref a_rank, .ref a_isWeekly, .ref a_isDouble, .ref a_giftDay, .ref a_giftFrom, .ref a_owed, .ref a_said, .ref a_spared, .ref a_leaveGift, .ref a_leaveFrom, .ref a_leaveTo, .ref a_lateDay, .ref a_lateOffice, .ref a_lateBy, .ref a_guests, .ref a_who, .ref a_used, .ref a_lacks, .ref a_candles, .ref a_masses, .ref a_owing, .ref a_heldOn, .ref a_waits, .ref a_tape, .ref a_text, .int n1_q3, .int v_size, .int v_at, .int v_fault, .int v_rules, .ref a_statements, .ref a_taken, .ref a_sort, .ref a_first, .ref a_second, .int v_wordEnd, .int v_number])), (a_tape, .inl (cB, 600, .inl f1_q3))] H := hP
    have hD := asD hP hD
    have l4_q3 := l4_toInt hw_q3.2 (by omega) (by omega)
    refine lv_aload_n hx hb dX12_feed_36 rfl (lv_at hl 0 rfl) ?_
    refine lv_iload hx hb dX12_feed_37 (lv_at hl 5 rfl) ?_
    have hPc := hP.sub (ws' := [(h, .inr (11, [.int v_today, .int v_monks, .int v_aways, .int v_feasts, .int v_gifts, .int v_leaves, .int v_lates, .int v_store, .int v_allCandles, .ref a_isPriest, .ref a_bars, .ref a_joined, .ref a_turns, .ref a_awayMonk, .ref a_awayFrom, .ref a_awayTo, .ref a_feastDay, .ref a_rank, .ref a_isWeekly, .ref a_isDouble, .ref a_giftDay, .ref a_giftFrom, .ref a_owed, .ref a_said, .ref a_spared, .ref a_leaveGift, .ref a_leaveFrom, .ref a_leaveTo, .ref a_lateDay, .ref a_lateOffice, .ref a_lateBy, .ref a_guests, .ref a_who, .ref a_used, .ref a_lacks, .ref a_candles, .ref a_masses, .ref a_owing, .ref a_heldOn, .ref a_waits, .ref a_tape, .ref a_text, .int n1_q3, .int v_size, .int v_at, .int v_fault, .int v_rules, .ref a_statements, .ref a_taken, .ref a_sort, .ref a_first, .ref a_second, .int v_wordEnd, .int v_number])), (a_tape, .inl (cB, 600, .inl f1_q3))]) [0, 1] rfl
    refine rwVv (As := [.int xe]) (rest := []) (wc := [(h, .inr (11, [.int v_today, .int v_monks, .int v_aways, .int v_feasts, .int v_gifts, .int v_leaves, .int v_lates, .int v_store, .int v_allCandles, .ref a_isPriest, .ref a_bars, .ref a_joined, .ref a_turns, .ref a_awayMonk, .ref a_awayFrom, .ref a_awayTo, .ref a_feastDay, .ref a_rank, .ref a_isWeekly, .ref a_isDouble, .ref a_giftDay, .ref a_giftFrom, .ref a_owed, .ref a_said, .ref a_spared, .ref a_leaveGift, .ref a_leaveFrom, .ref a_leaveTo, .ref a_lateDay, .ref a_lateOffice, .ref a_lateBy, .ref a_guests, .ref a_who, .ref a_used, .ref a_lacks, .ref a_candles, .ref a_masses, .ref a_owing, .ref a_heldOn, .ref a_waits, .ref a_tape, .ref a_text, .int n1_q3, .int v_size, .int v_at, .int v_fault, .int v_rules, .ref a_statements, .ref a_taken, .ref a_sort, .ref a_first, .ref a_second, .int v_wordEnd, .int v_number])), (a_tape, .inl (cB, 600, .inl f1_q3))]) (wr := []) S (p_four  (by omega) (by omega)) (cwV 1 hts gX12_feed_X12_four rfl rfl rfl ⟨rfl, hd_X12_four⟩ ⟨Nat.le_of_ble_eq_true rfl, Nat.le_of_ble_eq_true rfl⟩) hK hP hD hS hA [0, 1] [] rfl rfl (by decide +kernel) (by decide +kernel) (by decide +kernel) (va_recv hK.1 hPc (ci := 11) (q0 := 0) rfl rfl) rfl hl.1 rfl (Nat.le_of_ble_eq_true rfl) dX12_feed_39 ⟨Nat.le_of_ble_eq_true rfl, Nat.le_of_ble_eq_true rfl⟩ (fun u_q4 H locs hw_q4 hP hD hS => ?_)
    obtain ⟨n1_q4, f1_q4⟩ := u_q4
    have hw_q4 : f1_q4 = fourF f1_q3 n1_q3 xe ∧ n1_q4 = l4F n1_q3 := hw_q4
    have hP : va_P D vwCl [(h, .inr (11, [.int v_today, .int v_monks, .int v_aways, .int v_feasts, .int v_gifts, .int v_leaves, .int v_lates, .int v_store, .int v_allCandles, .ref a_isPriest, .ref a_bars, .ref a_joined, .ref a_turns, .ref a_awayMonk, .ref a_awayFrom, .ref a_awayTo, .ref a_feastDay, .ref a_rank, .ref a_isWeekly, .ref a_isDouble, .ref a_giftDay, .ref a_giftFrom, .ref a_owed, .ref a_said, .ref a_spared, .ref a_leaveGift, .ref a_leaveFrom, .ref a_leaveTo, .ref a_lateDay, .ref a_lateOffice, .ref a_lateBy, .ref a_guests, .ref a_who, .ref a_used, .ref a_lacks, .ref a_candles, .ref a_masses, .ref a_owing, .ref a_heldOn, .ref a_waits, .ref a_tape, .ref a_text, .int n1_q4, .int v_size, .int v_at, .int v_fault, .int v_rules, .ref a_statements, .ref a_taken, .ref a_sort, .ref a_first, .ref a_second, .int v_wordEnd, .int v_number])), (a_tape, .inl (cB, 600, .inl f1_q4))] H := hP
    have hD := asD hP hD
    have l4_q4 := l4_toInt hw_q4.2 (by omega) (by omega)
    refine lv_aload_n hx hb dX12_feed_42 rfl (lv_at hl 0 rfl) ?_
    refine va_get (D := D) (ci := 11) (v := .int n1_q4) (C := RX12) (T := TX12) (N := 54) hx hb hts in_M_feed_X12 hown hK.1 hP 0 rfl rfl 42 (by decide) lk0 (fun _ h9 => h9) rfl dX12_feed_43 ?_
    exact hret n1_q4 (n1_q4, f1_q4) _ _ _ _ (show ((v_taped.toInt ≤ 580) ∧ n1_q4.toInt = v_taped.toInt + 20 ∧ n1_q4 = l20F v_taped ∧ f1_q4 = feedB f_tape v_taped xa xb xc xd xe) ∨ (¬ (v_taped.toInt ≤ 580) ∧ n1_q4.toInt = -1 ∧ n1_q4 = v_taped ∧ f1_q4 = f_tape) from by first | exact Or.inl ⟨by omega, by omega, by rw [hw_q4.2, hw_q3.2, hw_q2.2, hw_q1.2, hw_q0.2]; rfl, by rw [hw_q4.1, hw_q3.1, hw_q2.1, hw_q1.1, hw_q0.1, hw_q3.2, hw_q2.2, hw_q1.2, hw_q0.2]; rfl⟩ | exact Or.inr ⟨by omega, by omega, rfl, rfl⟩) rfl (hP.sub [0, 1] rfl) (hD.sub [0, 1] (by decide +kernel) rfl) hS dX12_feed_46
  · have tc_2 := t_nle c_2
    refine lv_iconst (v := (-1)) hx hb dX12_feed_13 (by decide) ?_
    exact hret (-1) (v_taped, f_tape) _ _ _ _ (show ((v_taped.toInt ≤ 580) ∧ (-1 : Int32).toInt = v_taped.toInt + 20 ∧ v_taped = l20F v_taped ∧ f_tape = feedB f_tape v_taped xa xb xc xd xe) ∨ (¬ (v_taped.toInt ≤ 580) ∧ (-1 : Int32).toInt = -1 ∧ v_taped = v_taped ∧ f_tape = f_tape) from by first | exact Or.inl ⟨by omega, by omega, by rw [hw_q4.2, hw_q3.2, hw_q2.2, hw_q1.2, hw_q0.2]; rfl, by rw [hw_q4.1, hw_q3.1, hw_q2.1, hw_q1.1, hw_q0.1, hw_q3.2, hw_q2.2, hw_q1.2, hw_q0.2]; rfl⟩ | exact Or.inr ⟨by omega, by omega, rfl, rfl⟩) rfl (hP.sub [0, 1] rfl) (hD.sub [0, 1] (by decide +kernel) rfl) hS dX12_feed_14

