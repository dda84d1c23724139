theorem in_p_keep_X10 : ∀ w ∈ wsX100, w ∈ wsX10_keep := tl_X10_keep_X10
set_option maxHeartbeats 8000000 in
set_option maxRecDepth 100000 in
theorem p_keep {l : Launch} {D : va_G} {cI cZ cB : ClassId} {adK adV : Nat → Nat} {sz : Nat} {h a_kinds a_places a_values ht ta_bytes : Nat} {v_size v_textLength tv_length : Int32} {f_kinds f_places f_values tf_bytes : Nat → Int32} {a b : Int32} (htv_length0 : 0 ≤ tv_length.toInt) (htv_length1 : tv_length.toInt ≤ 600) (hs0 : 0 ≤ v_size.toInt) (hs1 : v_size.toInt < 97) (ha0 : 0 ≤ a.toInt) (hab : a.toInt ≤ b.toInt) (hb1 : b.toInt ≤ tv_length.toInt) (hab2 : a.toInt < b.toInt) (he : EndR tf_bytes v_textLength.toNatClampNeg a.toNatClampNeg b.toNatClampNeg) : Met l yX10_keep wsX10_keep ({ frames := 7, cells := 0, slots := 0, locals := 154 }) (RWs D cI cZ cB adK adV [.ref h, .ref ht, .int a, .int b] sz [(h, .inr (9, [.ref a_kinds, .ref a_places, .ref a_values, .int v_size, .int v_textLength])), (a_kinds, .inl (cI, 97, .inl f_kinds)), (a_places, .inl (cI, 97, .inl f_places)), (a_values, .inl (cI, 97, .inl f_values)), (ht, .inr (8, [.ref ta_bytes, .int tv_length])), (ta_bytes, .inl (cB, 600, .inl tf_bytes))]) (va_Qv (fun u : Int32 × (Nat → Int32) × (Nat → Int32) × (Nat → Int32) => ∃ k_ v_ : Int32, TokR tf_bytes v_textLength.toNatClampNeg a.toNatClampNeg k_ v_ b.toNatClampNeg ∧ u.2.1 = upd f_kinds v_size.toNatClampNeg k_ ∧ u.2.2.1 = upd f_places v_size.toNatClampNeg a ∧ u.2.2.2 = upd f_values v_size.toNatClampNeg v_ ∧ u.1.toInt = v_size.toInt + 1) (BW D [(h, .inr (9, [.ref a_kinds, .ref a_places, .ref a_values, .int v_size, .int v_textLength])), (a_kinds, .inl (cI, 97, .inl f_kinds)), (a_places, .inl (cI, 97, .inl f_places)), (a_values, .inl (cI, 97, .inl f_values)), (ht, .inr (8, [.ref ta_bytes, .int tv_length])), (ta_bytes, .inl (cB, 600, .inl tf_bytes))] sz (fun u : Int32 × (Nat → Int32) × (Nat → Int32) × (Nat → Int32) => [(h, .inr (9, [.ref a_kinds, .ref a_places, .ref a_values, .int u.1, .int v_textLength])), (a_kinds, .inl (cI, 97, .inl u.2.1)), (a_places, .inl (cI, 97, .inl u.2.2.1)), (a_values, .inl (cI, 97, .inl u.2.2.2)), (ht, .inr (8, [.ref ta_bytes, .int tv_length])), (ta_bytes, .inl (cB, 600, .inl tf_bytes))])) (va_A [(h, .inr (9, [.ref a_kinds, .ref a_places, .ref a_values, .int v_size, .int v_textLength])), (a_kinds, .inl (cI, 97, .inl f_kinds)), (a_places, .inl (cI, 97, .inl f_places)), (a_values, .inl (cI, 97, .inl f_values)), (ht, .inr (8, [.ref ta_bytes, .int tv_length])), (ta_bytes, .inl (cB, 600, .inl tf_bytes))] sz)) 0 (0) (va_A [(h, .inr (9, [.ref a_kinds, .ref a_places, .ref a_values, .int v_size, .int v_textLength])), (a_kinds, .inl (cI, 97, .inl f_kinds)), (a_places, .inl (cI, 97, .inl f_places)), (a_values, .inl (cI, 97, .inl f_values)), (ht, .inr (8, [.ref ta_bytes, .int tv_length])), (ta_bytes, .inl (cB, 600, .inl tf_bytes))] sz) := by
  refine rws_retv (cc := cX10_keep) (maxL := 5) (own := RX10) (by decide) rfl rfl (Nat.le_of_ble_eq_true rfl) ?_
  intro p e s m args below meth c Q A S hin hret hP hK hD hA hS hZ ls hl
  obtain ⟨hx, hb, hml, hown, hts⟩ := id S
  have hl : lv_has ls 5 [(0, .ref h), (1, .ref ht), (2, .int a), (3, .int b)] := hl
  have kk0 : (0 : Int32).toInt = 0 := by decide
  have kk1 : (1 : Int32).toInt = 1 := by decide
  have kk3 : (3 : Int32).toInt = 3 := by decide
  have kk97 : (97 : Int32).toInt = 97 := by decide
  have lk0 := hts (.fieldLink RX10 21 "AbbeyHours$Tokens" "size" "I") (mc_X10_keep_r1 _ (List.mem_of_getElem? (i := 0) rfl))
  have lk1 := hts (.fieldLink RX10 11 "AbbeyHours$Tokens" "kinds" "[I") (mc_X10_keep_r1 _ (List.mem_of_getElem? (i := 1) rfl))
  have lk2 := hts (.fieldLink RX10 15 "AbbeyHours$Tokens" "places" "[I") (mc_X10_keep_r1 _ (List.mem_of_getElem? (i := 2) rfl))
  have lk3 := hts (.fieldLink RX10 18 "AbbeyHours$Tokens" "values" "[I") (mc_X10_keep_r1 _ (List.mem_of_getElem? (i := 3) rfl))
  refine lv_aload_n hx hb dX10_keep_0 rfl (lv_at hl 0 rfl) ?_
  refine va_get (D := D) (ci := 9) (v := .int v_size) (C := RX10) (T := TX10) (N := 5) hx hb hts in_p_keep_X10 hown hK.1 hP 0 rfl rfl 3 (by decide) lk0 (fun _ h9 => h9) rfl dX10_keep_1 ?_
  refine lv_bipush (v := 97) hx hb dX10_keep_4 (by decide) ?_
  refine lv_icmp_lt (tgt := 10) hx hb dX10_keep_6 (by decide) (fun c_1 => ?_) (fun c_1 => ?_)
  · have tc_1 := t_lt c_1
    refine lv_aload_n hx hb dX10_keep_10 rfl (lv_at hl 1 rfl) ?_
    refine lv_iload_n hx hb dX10_keep_11 rfl (lv_at hl 2 rfl) ?_
    refine lv_iload_n hx hb dX10_keep_12 rfl (lv_at hl 3 rfl) ?_
    have hPc := hP.sub (ws' := [(ht, .inr (8, [.ref ta_bytes, .int tv_length])), (ta_bytes, .inl (cB, 600, .inl tf_bytes))]) [4, 5] rfl
    refine rosS (As := [.ref ht, .int a, .int b]) (rest := []) S (p_kindOf  (by omega) (by omega) (by omega) (by omega) (by omega) (by omega)) (va_cwS 3 hts gX10_keep_X10_kindOf rfl rfl rfl hd_X10_kindOf ⟨Nat.le_of_ble_eq_true rfl, Nat.le_of_ble_eq_true rfl⟩) hK (SX.narrow (hZ.kept (fun a h1 h2 => hS.2.1 a h1 h2)) (fun _ h => h.elim)) hPc rfl hl.1 rfl (Nat.le_of_ble_eq_true rfl) dX10_keep_13 ⟨Nat.le_of_ble_eq_true rfl, Nat.le_of_ble_eq_true rfl⟩ (fun r_ko hw_ko => ?_)
    have hw_ko : KoR tf_bytes a.toNatClampNeg b.toNatClampNeg r_ko := hw_ko
    refine lv_istore (lv' := [(4, .int r_ko), (0, .ref h), (1, .ref ht), (2, .int a), (3, .int b)]) hx hb dX10_keep_16 hl (by decide) rfl (fun ls hl => ?_)
    refine lv_aload_n hx hb dX10_keep_18 rfl (lv_at hl 1 rfl) ?_
    refine va_get (D := D) (ci := 9) (v := .ref a_kinds) (C := RX10) (T := TX10) (N := 5) hx hb hts in_p_keep_X10 hown hK.1 hP 0 rfl rfl 0 (by decide) lk1 (fun _ h9 => h9) rfl dX10_keep_19 ?_
    refine lv_aload_n hx hb dX10_keep_22 rfl (lv_at hl 1 rfl) ?_
    refine va_get (D := D) (ci := 9) (v := .int v_size) (C := RX10) (T := TX10) (N := 5) hx hb hts in_p_keep_X10 hown hK.1 hP 0 rfl rfl 3 (by decide) lk0 (fun _ h9 => h9) rfl dX10_keep_23 ?_
    refine lv_iload hx hb dX10_keep_26 (lv_at hl 0 rfl) ?_
    refine va_iast hx hb hK.1 hP hD hS 1 0 rfl rfl (t_in (by omega) (by omega)) dX10_keep_28 (fun H locs hP hD hS => ?_)
    obtain ⟨gk, egk⟩ : ∃ z : Nat → Int32, z = upd f_kinds ((v_size : Int32).toNatClampNeg) r_ko := ⟨_, rfl⟩
    rw [← egk] at hP hD
    have hP : va_P D vwCl [(h, .inr (9, [.ref a_kinds, .ref a_places, .ref a_values, .int v_size, .int v_textLength])), (a_kinds, .inl (cI, 97, .inl gk)), (a_places, .inl (cI, 97, .inl f_places)), (a_values, .inl (cI, 97, .inl f_values)), (ht, .inr (8, [.ref ta_bytes, .int tv_length])), (ta_bytes, .inl (cB, 600, .inl tf_bytes))] H := hP
    have hD := asD hP hD
    refine lv_aload_n hx hb dX10_keep_29 rfl (lv_at hl 1 rfl) ?_
    refine va_get (D := D) (ci := 9) (v := .ref a_places) (C := RX10) (T := TX10) (N := 5) hx hb hts in_p_keep_X10 hown hK.1 hP 0 rfl rfl 1 (by decide) lk2 (fun _ h9 => h9) rfl dX10_keep_30 ?_
    refine lv_aload_n hx hb dX10_keep_33 rfl (lv_at hl 1 rfl) ?_
    refine va_get (D := D) (ci := 9) (v := .int v_size) (C := RX10) (T := TX10) (N := 5) hx hb hts in_p_keep_X10 hown hK.1 hP 0 rfl rfl 3 (by decide) lk0 (fun _ h9 => h9) rfl dX10_keep_34 ?_
    refine lv_iload_n hx hb dX10_keep_37 rfl (lv_at hl 3 rfl) ?_
    refine va_iast hx hb hK.1 hP hD hS 2 0 rfl rfl (t_in (by omega) (by omega)) dX10_keep_38 (fun H locs hP hD hS => ?_)
    obtain ⟨gp, egp⟩ : ∃ z : Nat → Int32, z = upd f_places ((v_size : Int32).toNatClampNeg) a := ⟨_, rfl⟩
    rw [← egp] at hP hD
    have hP : va_P D vwCl [(h, .inr (9, [.ref a_kinds, .ref a_places, .ref a_values, .int v_size, .int v_textLength])), (a_kinds, .inl (cI, 97, .inl gk)), (a_places, .inl (cI, 97, .inl gp)), (a_values, .inl (cI, 97, .inl f_values)), (ht, .inr (8, [.ref ta_bytes, .int tv_length])), (ta_bytes, .inl (cB, 600, .inl tf_bytes))] H := hP
    have hD := asD hP hD
    refine lv_aload_n hx hb dX10_keep_39 rfl (lv_at hl 1 rfl) ?_
    refine va_get (D := D) (ci := 9) (v := .ref a_values) (C := RX10) (T := TX10) (N := 5) hx hb hts in_p_keep_X10 hown hK.1 hP 0 rfl rfl 2 (by decide) lk3 (fun _ h9 => h9) rfl dX10_keep_40 ?_
    refine lv_aload_n hx hb dX10_keep_43 rfl (lv_at hl 1 rfl) ?_
    refine va_get (D := D) (ci := 9) (v := .int v_size) (C := RX10) (T := TX10) (N := 5) hx hb hts in_p_keep_X10 hown hK.1 hP 0 rfl rfl 3 (by decide) lk0 (fun _ h9 => h9) rfl dX10_keep_44 ?_
    refine lv_iload hx hb dX10_keep_47 (lv_at hl 0 rfl) ?_
    refine lv_iconst (v := 3) hx hb dX10_keep_49 (by decide) ?_
    refine lv_icmp_ne (tgt := 62) hx hb dX10_keep_50 (by decide) (fun c_4 => ?_) (fun c_4 => ?_)
    · have tc_4 := t_neq c_4
      refine lv_iconst (v := 0) hx hb dX10_keep_62 (by decide) ?_
      refine va_iast hx hb hK.1 hP hD hS 3 0 rfl rfl (t_in (by omega) (by omega)) dX10_keep_63 (fun H locs hP hD hS => ?_)
      obtain ⟨gv, egv⟩ : ∃ z : Nat → Int32, z = upd f_values ((v_size : Int32).toNatClampNeg) 0 := ⟨_, rfl⟩
      rw [← egv] at hP hD
      have hP : va_P D vwCl [(h, .inr (9, [.ref a_kinds, .ref a_places, .ref a_values, .int v_size, .int v_textLength])), (a_kinds, .inl (cI, 97, .inl gk)), (a_places, .inl (cI, 97, .inl gp)), (a_values, .inl (cI, 97, .inl gv)), (ht, .inr (8, [.ref ta_bytes, .int tv_length])), (ta_bytes, .inl (cB, 600, .inl tf_bytes))] H := hP
      have hD := asD hP hD
      refine lv_aload_n hx hb dX10_keep_64 rfl (lv_at hl 1 rfl) ?_
      refine lv_dup hx hb dX10_keep_65 rfl ?_
      refine va_get (D := D) (ci := 9) (v := .int v_size) (C := RX10) (T := TX10) (N := 5) hx hb hts in_p_keep_X10 hown hK.1 hP 0 rfl rfl 3 (by decide) lk0 (fun _ h9 => h9) rfl dX10_keep_66 ?_
      refine lv_iconst (v := 1) hx hb dX10_keep_69 (by decide) ?_
      refine lv_iadd hx hb dX10_keep_70 ?_
      refine lv_topi (fun x_6 ex_6 => ?_)
      first | have tx_6 := t_add ex_6 (by omega) (by omega) | skip
      refine va_put (D := D) (ci := 9) (v := .int x_6) (ty := .int) (C := RX10) (T := TX10) (N := 5) hx hb hts in_p_keep_X10 tyX10 tyX10_ok nmX10 hown hK.1 hP hD hS 0 rfl rfl 3 (by decide) lk0 (fun _ h9 => h9) rfl (by decide +kernel) rfl rfl (Nat.le_of_ble_eq_true rfl) dX10_keep_71 (fun H locs hP hD hS => ?_)
      have hP : va_P D vwCl [(h, .inr (9, [.ref a_kinds, .ref a_places, .ref a_values, .int x_6, .int v_textLength])), (a_kinds, .inl (cI, 97, .inl gk)), (a_places, .inl (cI, 97, .inl gp)), (a_values, .inl (cI, 97, .inl gv)), (ht, .inr (8, [.ref ta_bytes, .int tv_length])), (ta_bytes, .inl (cB, 600, .inl tf_bytes))] H := hP
      have hD := asD hP hD
      exact hret (x_6, gk, gp, gv) _ _ _ _ (show ∃ k_ v_ : Int32, TokR tf_bytes v_textLength.toNatClampNeg a.toNatClampNeg k_ v_ b.toNatClampNeg ∧ gk = upd f_kinds v_size.toNatClampNeg k_ ∧ gp = upd f_places v_size.toNatClampNeg a ∧ gv = upd f_values v_size.toNatClampNeg v_ ∧ x_6.toInt = v_size.toInt + 1 from by first | exact ⟨r_ko, r_nu, TokR.of he hw_ko (Or.inl ⟨by omega, hw_nu⟩), egk, egp, egv, by omega⟩ | exact ⟨r_ko, 0, TokR.of he hw_ko (Or.inr ⟨by omega, by omega⟩), egk, egp, egv, by omega⟩) (hP.sub [0, 1, 2, 3, 4, 5] rfl) (hD.sub [0, 1, 2, 3, 4, 5] (by decide +kernel) rfl) hS dX10_keep_74
    · have tc_4 := t_eq c_4
      refine lv_aload_n hx hb dX10_keep_53 rfl (lv_at hl 2 rfl) ?_
      refine lv_iload_n hx hb dX10_keep_54 rfl (lv_at hl 3 rfl) ?_
      refine lv_iload_n hx hb dX10_keep_55 rfl (lv_at hl 4 rfl) ?_
      have hPc := hP.sub (ws' := [(ht, .inr (8, [.ref ta_bytes, .int tv_length])), (ta_bytes, .inl (cB, 600, .inl tf_bytes))]) [4, 5] rfl
      refine roS (As := [.ref ht, .int a, .int b]) (rest := [.int v_size, .ref a_values]) S (p_numberOf  (by omega) (by omega) (by omega) (by omega) (by omega)) (va_cwS 3 hts gX10_keep_X10_numberOf rfl rfl rfl hd_X10_numberOf ⟨Nat.le_of_ble_eq_true rfl, Nat.le_of_ble_eq_true rfl⟩) hK hPc rfl hl.1 rfl (Nat.le_of_ble_eq_true rfl) dX10_keep_56 ⟨Nat.le_of_ble_eq_true rfl, Nat.le_of_ble_eq_true rfl⟩ (fun r_nu hw_nu => ?_)
      have hw_nu : r_nu = numF tf_bytes a.toNatClampNeg (b.toNatClampNeg - a.toNatClampNeg) := hw_nu
      refine lv_goto (tgt := 63) hx hb dX10_keep_59 (by decide) ?_
      refine va_iast hx hb hK.1 hP hD hS 3 0 rfl rfl (t_in (by omega) (by omega)) dX10_keep_63 (fun H locs hP hD hS => ?_)
      obtain ⟨gv, egv⟩ : ∃ z : Nat → Int32, z = upd f_values ((v_size : Int32).toNatClampNeg) r_nu := ⟨_, rfl⟩
      rw [← egv] at hP hD
      have hP : va_P D vwCl [(h, .inr (9, [.ref a_kinds, .ref a_places, .ref a_values, .int v_size, .int v_textLength])), (a_kinds, .inl (cI, 97, .inl gk)), (a_places, .inl (cI, 97, .inl gp)), (a_values, .inl (cI, 97, .inl gv)), (ht, .inr (8, [.ref ta_bytes, .int tv_length])), (ta_bytes, .inl (cB, 600, .inl tf_bytes))] H := hP
      have hD := asD hP hD
      refine lv_aload_n hx hb dX10_keep_64 rfl (lv_at hl 1 rfl) ?_
      refine lv_dup hx hb dX10_keep_65 rfl ?_
      refine va_get (D := D) (ci := 9) (v := .int v_size) (C := RX10) (T := TX10) (N := 5) hx hb hts in_p_keep_X10 hown hK.1 hP 0 rfl rfl 3 (by decide) lk0 (fun _ h9 => h9) rfl dX10_keep_66 ?_
      refine lv_iconst (v := 1) hx hb dX10_keep_69 (by decide) ?_
      refine lv_iadd hx hb dX10_keep_70 ?_
      refine lv_topi (fun x_8 ex_8 => ?_)
      first | have tx_8 := t_add ex_8 (by omega) (by omega) | skip
      refine va_put (D := D) (ci := 9) (v := .int x_8) (ty := .int) (C := RX10) (T := TX10) (N := 5) hx hb hts in_p_keep_X10 tyX10 tyX10_ok nmX10 hown hK.1 hP hD hS 0 rfl rfl 3 (by decide) lk0 (fun _ h9 => h9) rfl (by decide +kernel) rfl rfl (Nat.le_of_ble_eq_true rfl) dX10_keep_71 (fun H locs hP hD hS => ?_)
      have hP : va_P D vwCl [(h, .inr (9, [.ref a_kinds, .ref a_places, .ref a_values, .int x_8, .int v_textLength])), (a_kinds, .inl (cI, 97, .inl gk)), (a_places, .inl (cI, 97, .inl gp)), (a_values, .inl (cI, 97, .inl gv)), (ht, .inr (8, [.ref ta_bytes, .int tv_length])), (ta_bytes, .inl (cB, 600, .inl tf_bytes))] H := hP
      have hD := asD hP hD
      exact hret (x_8, gk, gp, gv) _ _ _ _ (show ∃ k_ v_ : Int32, TokR tf_bytes v_textLength.toNatClampNeg a.toNatClampNeg k_ v_ b.toNatClampNeg ∧ gk = upd f_kinds v_size.toNatClampNeg k_ ∧ gp = upd f_places v_size.toNatClampNeg a ∧ gv = upd f_values v_size.toNatClampNeg v_ ∧ x_8.toInt = v_size.toInt + 1 from by first | exact ⟨r_ko, r_nu, TokR.of he hw_ko (Or.inl ⟨by omega, hw_nu⟩), egk, egp, egv, by omega⟩ | exact ⟨r_ko, 0, TokR.of he hw_ko (Or.inr ⟨by omega, by omega⟩), egk, egp, egv, by omega⟩) (hP.sub [0, 1, 2, 3, 4, 5] rfl) (hD.sub [0, 1, 2, 3, 4, 5] (by decide +kernel) rfl) hS dX10_keep_74
  · have tc_1 := t_nlt c_1
    exfalso; omega

theorem in_p_scan_X10 : ∀ w ∈ wsX100, w ∈ wsX10_scan := tl_X10_scan_X10
set_option maxHeartbeats 8000000 in
set_option maxRecDepth 100000 in
theorem p_scan {l : Launch} {D : va_G} {cI cZ cB : ClassId} {adK adV : Nat → Nat} {sz : Nat} {h a_kinds a_places a_values ht ta_bytes : Nat} {v_size v_textLength tv_length : Int32} {f_kinds f_places f_values tf_bytes : Nat → Int32} {n : Int32} (htv_length0 : 0 ≤ tv_length.toInt) (htv_length1 : tv_length.toInt ≤ 600) (hn0 : 0 ≤ n.toInt) (hn1 : n.toInt ≤ tv_length.toInt) : Met l yX10_scan wsX10_scan ({ frames := 8, cells := 0, slots := 0, locals := 178 }) (RWs D cI cZ cB adK adV [.ref h, .ref ht, .int n] sz [(h, .inr (9, [.ref a_kinds, .ref a_places, .ref a_values, .int v_size, .int v_textLength])), (a_kinds, .inl (cI, 97, .inl f_kinds)), (a_places, .inl (cI, 97, .inl f_places)), (a_values, .inl (cI, 97, .inl f_values)), (ht, .inr (8, [.ref ta_bytes, .int tv_length])), (ta_bytes, .inl (cB, 600, .inl tf_bytes))]) (va_Qv (fun u : Int32 × (Nat → Int32) × (Nat → Int32) × (Nat → Int32) × Int32 => 0 ≤ u.1.toInt ∧ u.1.toInt ≤ 97 ∧ u.2.2.2.2 = n ∧ TokS tf_bytes n.toNatClampNeg u.2.1 u.2.2.1 u.2.2.2.1 u.1.toInt ∧ (u.1.toInt < 97 → PosR tf_bytes n.toNatClampNeg u.1.toInt.toNat n.toNatClampNeg)) (BW D [(h, .inr (9, [.ref a_kinds, .ref a_places, .ref a_values, .int v_size, .int v_textLength])), (a_kinds, .inl (cI, 97, .inl f_kinds)), (a_places, .inl (cI, 97, .inl f_places)), (a_values, .inl (cI, 97, .inl f_values)), (ht, .inr (8, [.ref ta_bytes, .int tv_length])), (ta_bytes, .inl (cB, 600, .inl tf_bytes))] sz (fun u : Int32 × (Nat → Int32) × (Nat → Int32) × (Nat → Int32) × Int32 => [(h, .inr (9, [.ref a_kinds, .ref a_places, .ref a_values, .int u.1, .int u.2.2.2.2])), (a_kinds, .inl (cI, 97, .inl u.2.1)), (a_places, .inl (cI, 97, .inl u.2.2.1)), (a_values, .inl (cI, 97, .inl u.2.2.2.1)), (ht, .inr (8, [.ref ta_bytes, .int tv_length])), (ta_bytes, .inl (cB, 600, .inl tf_bytes))])) (va_A [(h, .inr (9, [.ref a_kinds, .ref a_places, .ref a_values, .int v_size, .int v_textLength])), (a_kinds, .inl (cI, 97, .inl f_kinds)), (a_places, .inl (cI, 97, .inl f_places)), (a_values, .inl (cI, 97, .inl f_values)), (ht, .inr (8, [.ref ta_bytes, .int tv_length])), (ta_bytes, .inl (cB, 600, .inl tf_bytes))] sz)) 0 (0) (va_A [(h, .inr (9, [.ref a_kinds, .ref a_places, .ref a_values, .int v_size, .int v_textLength])), (a_kinds, .inl (cI, 97, .inl f_kinds)), (a_places, .inl (cI, 97, .inl f_places)), (a_values, .inl (cI, 97, .inl f_values)), (ht, .inr (8, [.ref ta_bytes, .int tv_length])), (ta_bytes, .inl (cB, 600, .inl tf_bytes))] sz) := by
  refine rws_retv (cc := cX10_scan) (maxL := 5) (own := RX10) (by decide) rfl rfl (Nat.le_of_ble_eq_true rfl) ?_
  intro p e s m args below meth c Q A S hin hret hP hK hD hA hS hZ ls hl
  obtain ⟨hx, hb, hml, hown, hts⟩ := id S
  have hl : lv_has ls 5 [(0, .ref h), (1, .ref ht), (2, .int n)] := hl
  have kk0 : (0 : Int32).toInt = 0 := by decide
  have kk1 : (1 : Int32).toInt = 1 := by decide
  have kk97 : (97 : Int32).toInt = 97 := by decide
  have lk0 := hts (.fieldLink RX10 21 "AbbeyHours$Tokens" "size" "I") (mc_X10_scan_r1 _ (List.mem_of_getElem? (i := 0) rfl))
  have lk1 := hts (.fieldLink RX10 25 "AbbeyHours$Tokens" "textLength" "I") (mc_X10_scan_r1 _ (List.mem_of_getElem? (i := 1) rfl))
  have lk2 := hts (.methodLink RX10 46 Lib.Math.max.name) (mc_X10_scan_r1 _ (List.mem_of_getElem? (i := 2) rfl))
  have lk3 := hts (.static Lib.Math.max.name) (mc_X10_scan_r1 _ (List.mem_of_getElem? (i := 3) rfl))
  have lk4 := hts (.initialized "java/lang/Math") (mc_X10_scan_r1 _ (List.mem_of_getElem? (i := 4) rfl))
  have lk5 := hts (.code Lib.Math.max.name Lib.Math.max.code 2 (some .int)) (mc_X10_scan_r1 _ (List.mem_of_getElem? (i := 5) rfl))
  have cn := t_cl (x := n) (by omega)
  refine lv_aload_n hx hb dX10_scan_0 rfl (lv_at hl 0 rfl) ?_
  refine lv_iconst (v := 0) hx hb dX10_scan_1 (by decide) ?_
  refine va_put (D := D) (ci := 9) (v := .int 0) (ty := .int) (C := RX10) (T := TX10) (N := 5) hx hb hts in_p_scan_X10 tyX10 tyX10_ok nmX10 hown hK.1 hP hD hS 0 rfl rfl 3 (by decide) lk0 (fun _ h9 => h9) rfl (by decide +kernel) rfl rfl (Nat.le_of_ble_eq_true rfl) dX10_scan_2 (fun H locs hP hD hS => ?_)
  have hP : va_P D vwCl [(h, .inr (9, [.ref a_kinds, .ref a_places, .ref a_values, .int 0, .int v_textLength])), (a_kinds, .inl (cI, 97, .inl f_kinds)), (a_places, .inl (cI, 97, .inl f_places)), (a_values, .inl (cI, 97, .inl f_values)), (ht, .inr (8, [.ref ta_bytes, .int tv_length])), (ta_bytes, .inl (cB, 600, .inl tf_bytes))] H := hP
  have hD := asD hP hD
  refine lv_aload_n hx hb dX10_scan_5 rfl (lv_at hl 0 rfl) ?_
  refine lv_iload_n hx hb dX10_scan_6 rfl (lv_at hl 2 rfl) ?_
  refine va_put (D := D) (ci := 9) (v := .int n) (ty := .int) (C := RX10) (T := TX10) (N := 5) hx hb hts in_p_scan_X10 tyX10 tyX10_ok nmX10 hown hK.1 hP hD hS 0 rfl rfl 4 (by decide) lk1 (fun _ h9 => h9) rfl (by decide +kernel) rfl rfl (Nat.le_of_ble_eq_true rfl) dX10_scan_7 (fun H locs hP hD hS => ?_)
  have hP : va_P D vwCl [(h, .inr (9, [.ref a_kinds, .ref a_places, .ref a_values, .int 0, .int n])), (a_kinds, .inl (cI, 97, .inl f_kinds)), (a_places, .inl (cI, 97, .inl f_places)), (a_values, .inl (cI, 97, .inl f_values)), (ht, .inr (8, [.ref ta_bytes, .int tv_length])), (ta_bytes, .inl (cB, 600, .inl tf_bytes))] H := hP
  have hD := asD hP hD
  refine lv_iconst (v := 0) hx hb dX10_scan_10 (by decide) ?_
  refine lv_istore_n (lv' := [(3, .int 0), (0, .ref h), (1, .ref ht), (2, .int n)]) hx hb dX10_scan_11 rfl hl (by decide) rfl (fun ls hl => ?_)
  have loop12 : ∀ (fuel : Nat) (j : Int32) (sz_ : Int32) (g1 : Nat → Int32) (g2 : Nat → Int32) (g3 : Nat → Int32), n.toInt - j.toInt < (fuel : Int) → (0 ≤ j.toInt) → (j.toInt ≤ n.toInt) → (0 ≤ sz_.toInt) → (sz_.toInt ≤ 97) → (ScanL tf_bytes n.toNatClampNeg g1 g2 g3 sz_.toInt j.toNatClampNeg) → ∀ (H : Heap) (locs : List Loc), va_P D vwCl [(h, .inr (9, [.ref a_kinds, .ref a_places, .ref a_values, .int sz_, .int n])), (a_kinds, .inl (cI, 97, .inl g1)), (a_places, .inl (cI, 97, .inl g2)), (a_values, .inl (cI, 97, .inl g3)), (ht, .inr (8, [.ref ta_bytes, .int tv_length])), (ta_bytes, .inl (cB, 600, .inl tf_bytes))] H → va_D A [(h, .inr (9, [.ref a_kinds, .ref a_places, .ref a_values, .int sz_, .int n])), (a_kinds, .inl (cI, 97, .inl g1)), (a_places, .inl (cI, 97, .inl g2)), (a_values, .inl (cI, 97, .inl g3)), (ht, .inr (8, [.ref ta_bytes, .int tv_length])), (ta_bytes, .inl (cB, 600, .inl tf_bytes))] → va_S A s.heap H locs → ∀ ls : Array Slot, lv_has ls 5 [(3, .int j), (0, .ref h), (1, .ref ht), (2, .int n)] → W p l e ({ frames := 8, cells := 0, slots := 0, locals := 178 } : Room) s m args below meth c H locs 0 (0) Q (F0 m 12 ls []) := by
    intro fuel
    induction fuel with
    | zero =>
      intro j sz_ g1 g2 g3 hmu hj0 hj1 hs0 hs1 hsc H locs hP hD hS ls hl
      exfalso; omega
    | succ fuel ih12 =>
      intro j sz_ g1 g2 g3 hmu hj0 hj1 hs0 hs1 hsc H locs hP hD hS ls hl
      refine lv_iload_n hx hb dX10_scan_12 rfl (lv_at hl 0 rfl) ?_
      refine lv_iload_n hx hb dX10_scan_13 rfl (lv_at hl 3 rfl) ?_
      refine lv_icmp_ge (tgt := 68) hx hb dX10_scan_14 (by decide) (fun c_1 => ?_) (fun c_1 => ?_)
      · have tc_1 := t_le c_1
        exact hret (sz_, g1, g2, g3, n) _ _ _ _ (show 0 ≤ sz_.toInt ∧ sz_.toInt ≤ 97 ∧ n = n ∧ TokS tf_bytes n.toNatClampNeg g1 g2 g3 sz_.toInt ∧ (sz_.toInt < 97 → PosR tf_bytes n.toNatClampNeg sz_.toInt.toNat n.toNatClampNeg) from by first | exact ⟨by omega, by omega, rfl, hsc.1, fun h => by exfalso; omega⟩ | exact ⟨by omega, by omega, rfl, hsc.1, fun _ => hsc.2 _ (by rw [show j = n from i32_ext (by omega)]; exact RunR.here (by omega) (fun z => by exfalso; omega))⟩) (hP.sub [0, 1, 2, 3, 4, 5] rfl) (hD.sub [0, 1, 2, 3, 4, 5] (by decide +kernel) rfl) hS dX10_scan_68
      · have tc_1 := t_nle c_1
        refine lv_aload_n hx hb dX10_scan_17 rfl (lv_at hl 1 rfl) ?_
        refine va_get (D := D) (ci := 9) (v := .int sz_) (C := RX10) (T := TX10) (N := 5) hx hb hts in_p_scan_X10 hown hK.1 hP 0 rfl rfl 3 (by decide) lk0 (fun _ h9 => h9) rfl dX10_scan_18 ?_
        refine lv_bipush (v := 97) hx hb dX10_scan_21 (by decide) ?_
        refine lv_icmp_ge (tgt := 68) hx hb dX10_scan_23 (by decide) (fun c_2 => ?_) (fun c_2 => ?_)
        · have tc_2 := t_le c_2
          exact hret (sz_, g1, g2, g3, n) _ _ _ _ (show 0 ≤ sz_.toInt ∧ sz_.toInt ≤ 97 ∧ n = n ∧ TokS tf_bytes n.toNatClampNeg g1 g2 g3 sz_.toInt ∧ (sz_.toInt < 97 → PosR tf_bytes n.toNatClampNeg sz_.toInt.toNat n.toNatClampNeg) from by first | exact ⟨by omega, by omega, rfl, hsc.1, fun h => by exfalso; omega⟩ | exact ⟨by omega, by omega, rfl, hsc.1, fun _ => hsc.2 _ (by rw [show j = n from i32_ext (by omega)]; exact RunR.here (by omega) (fun z => by exfalso; omega))⟩) (hP.sub [0, 1, 2, 3, 4, 5] rfl) (hD.sub [0, 1, 2, 3, 4, 5] (by decide +kernel) rfl) hS dX10_scan_68
        · have tc_2 := t_nle c_2
          refine lv_aload_n hx hb dX10_scan_26 rfl (lv_at hl 2 rfl) ?_
          refine lv_iload_n hx hb dX10_scan_27 rfl (lv_at hl 0 rfl) ?_
          have hPc := hP.sub (ws' := [(ht, .inr (8, [.ref ta_bytes, .int tv_length])), (ta_bytes, .inl (cB, 600, .inl tf_bytes))]) [4, 5] rfl
          refine roV (As := [.int j]) (rest := []) S (p_byteAt  (by omega) (by omega)) (cwV 1 hts gX10_scan_X9_byteAt rfl rfl rfl ⟨rfl, hd_X9_byteAt⟩ ⟨Nat.le_of_ble_eq_true rfl, Nat.le_of_ble_eq_true rfl⟩) hK hPc (va_recv hK.1 hPc (ci := 8) (q0 := 0) rfl rfl) rfl hl.1 rfl (Nat.le_of_ble_eq_true rfl) dX10_scan_28 ⟨Nat.le_of_ble_eq_true rfl, Nat.le_of_ble_eq_true rfl⟩ (fun r_bt hw_bt => ?_)
          have hw_bt : ((0 ≤ j.toInt ∧ j.toInt < tv_length.toInt) → r_bt = tf_bytes j.toNatClampNeg) ∧ (¬ (0 ≤ j.toInt ∧ j.toInt < tv_length.toInt) → r_bt.toInt = 0) := hw_bt
          have ebt : r_bt = tf_bytes j.toNatClampNeg := hw_bt.1 (by omega)
          have hPc := hP.sub (ws' := []) [] rfl
          refine roS (As := [.int r_bt]) (rest := []) S (p_blank  ) (va_cwS 1 hts gX10_scan_X10_isBlank rfl rfl rfl hd_X10_isBlank ⟨Nat.le_of_ble_eq_true rfl, Nat.le_of_ble_eq_true rfl⟩) hK hPc rfl hl.1 rfl (Nat.le_of_ble_eq_true rfl) dX10_scan_31 ⟨Nat.le_of_ble_eq_true rfl, Nat.le_of_ble_eq_true rfl⟩ (fun r_bl hw_bl => ?_)
          have hw_bl : (r_bl.toInt = 1 ∧ blkP r_bt) ∨ (r_bl.toInt = 0 ∧ ¬ blkP r_bt) := hw_bl
          rw [ebt] at hw_bl
          have h1_bl := if01 hw_bl
          refine lv_if_ne (tgt := 62) hx hb dX10_scan_34 (by decide) (fun c_3 => ?_) (fun c_3 => ?_)
          · have tc_3 := t_neq c_3
            obtain ⟨x_4, ex_4⟩ : ∃ y : Int32, y = j + 1 := ⟨_, rfl⟩
            refine lv_iinc (v := x_4) (lv' := [(3, .int x_4), (0, .ref h), (1, .ref ht), (2, .int n)]) hx hb dX10_scan_62 hl (k := 0) rfl (by rw [ex_4]; rfl) (by decide) rfl (fun ls hl => ?_)
            first | have tx_4 := t_add ex_4 (by omega) (by omega) | skip
            refine lv_goto (tgt := 12) hx hb dX10_scan_65 (by decide) ?_
            exact ih12 x_4 sz_ g1 g2 g3 (by omega) (by omega) (by omega) (by omega) (by omega) (by have cj := t_cl (x := j) (by omega); first | (rw [ix1 (x := x_4) (i := j) (by omega) (by omega)]; exact hsc.blank (if1 hw_bl (by omega))) | (rw [show (x_4).toNatClampNeg = r_en.toNatClampNeg by have := t_cl (x := x_4) (by omega); have := t_cl (x := r_en) (by omega); omega]; exact hsc.tok (by omega) (by omega) (by omega) (if0 hw_bl (by omega)) t1 t5 t2 t3 t4)) _ _ hP hD hS ls (lv_sub hl [0, 1, 2, 3] rfl)
          · have tc_3 := t_eq c_3
            refine lv_aload_n hx hb dX10_scan_37 rfl (lv_at hl 1 rfl) ?_
            refine lv_aload_n hx hb dX10_scan_38 rfl (lv_at hl 2 rfl) ?_
            refine lv_iload_n hx hb dX10_scan_39 rfl (lv_at hl 0 rfl) ?_
            have hPc := hP.sub (ws' := [(h, .inr (9, [.ref a_kinds, .ref a_places, .ref a_values, .int sz_, .int n])), (ht, .inr (8, [.ref ta_bytes, .int tv_length])), (ta_bytes, .inl (cB, 600, .inl tf_bytes))]) [0, 4, 5] rfl
            refine roV (As := [.ref ht, .int j]) (rest := []) S (p_endOf  (by omega) (by omega) (by omega) (by omega) (by omega)) (cwV 2 hts gX10_scan_X10_endOfToken rfl rfl rfl ⟨rfl, hd_X10_endOfToken⟩ ⟨Nat.le_of_ble_eq_true rfl, Nat.le_of_ble_eq_true rfl⟩) hK hPc (va_recv hK.1 hPc (ci := 9) (q0 := 0) rfl rfl) rfl hl.1 rfl (Nat.le_of_ble_eq_true rfl) dX10_scan_40 ⟨Nat.le_of_ble_eq_true rfl, Nat.le_of_ble_eq_true rfl⟩ (fun r_en hw_en => ?_)
            have hw_en : EndR tf_bytes n.toNatClampNeg j.toNatClampNeg r_en.toNatClampNeg ∧ j.toInt < r_en.toInt ∧ r_en.toInt ≤ n.toInt := hw_en
            have hen := hw_en.2
            refine lv_istore (lv' := [(4, .int r_en), (3, .int j), (0, .ref h), (1, .ref ht), (2, .int n)]) hx hb dX10_scan_43 hl (by decide) rfl (fun ls hl => ?_)
            refine lv_aload_n hx hb dX10_scan_45 rfl (lv_at hl 2 rfl) ?_
            refine lv_aload_n hx hb dX10_scan_46 rfl (lv_at hl 3 rfl) ?_
            refine lv_iload_n hx hb dX10_scan_47 rfl (lv_at hl 1 rfl) ?_
            refine lv_iload hx hb dX10_scan_48 (lv_at hl 0 rfl) ?_
            have hPc := hP.sub (ws' := [(h, .inr (9, [.ref a_kinds, .ref a_places, .ref a_values, .int sz_, .int n])), (a_kinds, .inl (cI, 97, .inl g1)), (a_places, .inl (cI, 97, .inl g2)), (a_values, .inl (cI, 97, .inl g3)), (ht, .inr (8, [.ref ta_bytes, .int tv_length])), (ta_bytes, .inl (cB, 600, .inl tf_bytes))]) [0, 1, 2, 3, 4, 5] rfl
            refine rwsVv (As := [.ref ht, .int j, .int r_en]) (rest := []) (wc := [(h, .inr (9, [.ref a_kinds, .ref a_places, .ref a_values, .int sz_, .int n])), (a_kinds, .inl (cI, 97, .inl g1)), (a_places, .inl (cI, 97, .inl g2)), (a_values, .inl (cI, 97, .inl g3)), (ht, .inr (8, [.ref ta_bytes, .int tv_length])), (ta_bytes, .inl (cB, 600, .inl tf_bytes))]) (wr := []) S (p_keep  (by omega) (by omega) (by omega) (by omega) (by omega) (by omega) (by omega) (by omega) (hw_en.1)) (cwV 3 hts gX10_scan_X10_keep rfl rfl rfl ⟨rfl, hd_X10_keep⟩ ⟨Nat.le_of_ble_eq_true rfl, Nat.le_of_ble_eq_true rfl⟩) hK (hZ.kept (fun a h1 h2 => hS.2.1 a h1 h2)) hP hD hS hA [0, 1, 2, 3, 4, 5] [] rfl rfl (by decide +kernel) (by decide +kernel) (by decide +kernel) (va_recv hK.1 hPc (ci := 9) (q0 := 0) rfl rfl) rfl hl.1 rfl (Nat.le_of_ble_eq_true rfl) dX10_scan_50 ⟨Nat.le_of_ble_eq_true rfl, Nat.le_of_ble_eq_true rfl⟩ (fun u_kp H locs hw_kp hP hD hS => ?_)
            obtain ⟨n1_kp, f1_kp, f2_kp, f3_kp⟩ := u_kp
            have hw_kp : ∃ k_ v_ : Int32, TokR tf_bytes n.toNatClampNeg j.toNatClampNeg k_ v_ r_en.toNatClampNeg ∧ f1_kp = upd g1 sz_.toNatClampNeg k_ ∧ f2_kp = upd g2 sz_.toNatClampNeg j ∧ f3_kp = upd g3 sz_.toNatClampNeg v_ ∧ n1_kp.toInt = sz_.toInt + 1 := hw_kp
            have hP : va_P D vwCl [(h, .inr (9, [.ref a_kinds, .ref a_places, .ref a_values, .int n1_kp, .int n])), (a_kinds, .inl (cI, 97, .inl f1_kp)), (a_places, .inl (cI, 97, .inl f2_kp)), (a_values, .inl (cI, 97, .inl f3_kp)), (ht, .inr (8, [.ref ta_bytes, .int tv_length])), (ta_bytes, .inl (cB, 600, .inl tf_bytes))] H := hP
            have hD := asD hP hD
            obtain ⟨k_, v_, t1, t2, t3, t4, t5⟩ := hw_kp
            refine lv_iload_n hx hb dX10_scan_53 rfl (lv_at hl 1 rfl) ?_
            refine lv_iload hx hb dX10_scan_54 (lv_at hl 0 rfl) ?_
            refine lv_iconst (v := 1) hx hb dX10_scan_56 (by decide) ?_
            refine lv_isub hx hb dX10_scan_57 ?_
            refine lv_topi (fun x_5 ex_5 => ?_)
            first | have tx_5 := t_sub ex_5 (by omega) (by omega) | skip
            refine va_mmax hx hb (hml.trans hl.1.symm) hown lk2 lk3 lk4 lk5 (Nat.le_of_ble_eq_true rfl) (Nat.le_of_ble_eq_true rfl) (Nat.le_of_ble_eq_true rfl) (Nat.le_of_ble_eq_true rfl) dX10_scan_58 ?_
            refine lv_topi (fun x_6 ex_6 => ?_)
            have tx_6 := t_max ex_6
            refine lv_istore_n (lv' := [(3, .int x_6), (4, .int r_en), (0, .ref h), (1, .ref ht), (2, .int n)]) hx hb dX10_scan_61 rfl hl (by decide) rfl (fun ls hl => ?_)
            obtain ⟨x_7, ex_7⟩ : ∃ y : Int32, y = x_6 + 1 := ⟨_, rfl⟩
            refine lv_iinc (v := x_7) (lv' := [(3, .int x_7), (4, .int r_en), (0, .ref h), (1, .ref ht), (2, .int n)]) hx hb dX10_scan_62 hl (k := 0) rfl (by rw [ex_7]; rfl) (by decide) rfl (fun ls hl => ?_)
            first | have tx_7 := t_add ex_7 (by omega) (by omega) | skip
            refine lv_goto (tgt := 12) hx hb dX10_scan_65 (by decide) ?_
            exact ih12 x_7 n1_kp f1_kp f2_kp f3_kp (by omega) (by omega) (by omega) (by omega) (by omega) (by have cj := t_cl (x := j) (by omega); first | (rw [ix1 (x := x_7) (i := j) (by omega) (by omega)]; exact hsc.blank (if1 hw_bl (by omega))) | (rw [show (x_7).toNatClampNeg = r_en.toNatClampNeg by have := t_cl (x := x_7) (by omega); have := t_cl (x := r_en) (by omega); omega]; exact hsc.tok (by omega) (by omega) (by omega) (if0 hw_bl (by omega)) t1 t5 t2 t3 t4)) _ _ hP hD hS ls (lv_sub hl [0, 2, 3, 4] rfl)
  exact loop12 ((n.toInt - (0 : Int32).toInt).toNat + 1) 0 0 f_kinds f_places f_values (by omega) (by omega) (by omega) (by omega) (by omega) (⟨Al.zero (by omega), fun q_ hq_ => by rw [ix0] at hq_; rw [kk0]; exact hq_⟩) _ _ hP hD hS ls (lv_sub hl [0, 1, 2, 3] rfl)

