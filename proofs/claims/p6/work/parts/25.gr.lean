theorem in_v4_grow_X1 : ∀ w ∈ wsX10, w ∈ wsX1_grow := tl_X1_grow_X1
set_option maxHeartbeats 8000000 in
set_option maxRecDepth 100000 in
theorem v4_grow {l : Launch} {D : va_G} {cI cZ cB : ClassId} {sz : Nat} {h ac L : Nat} {fc : Nat → Int32} {x : Int32} (hL : L < 65536) (hL1 : 1 ≤ L) (hx0 : 0 ≤ x.toInt) (hx1 : x.toInt ≤ 2 * L) (hr : InR fc L (-1) 24) : Met l yX1_grow wsX1_grow ({ frames := 1, cells := 1, slots := 2 * L, locals := 60 }) (RW D cI cZ cB [.ref h, .int x] sz [(h, .inr (1, [.int 4, .ref ac])), (ac, .inl (cI, L, .inl fc))]) (va_Qv (fun u : Nat × Nat × (Nat → Int32) => u.2.1 = 2 * L ∧ InR u.2.2 u.2.1 (-1) 24) (BW D [(h, .inr (1, [.int 4, .ref ac])), (ac, .inl (cI, L, .inl fc))] sz (fun u : Nat × Nat × (Nat → Int32) => [(h, .inr (1, [.int 4, .ref u.1])), (u.1, .inl (cI, u.2.1, .inl u.2.2))])) (va_A [(h, .inr (1, [.int 4, .ref ac])), (ac, .inl (cI, L, .inl fc))] sz)) 1 (2 * L) (va_A [(h, .inr (1, [.int 4, .ref ac])), (ac, .inl (cI, L, .inl fc))] sz) := by
  refine rw_retv (cc := cX1_grow) (maxL := 3) (own := RX1) (by decide) rfl rfl (Nat.le_of_ble_eq_true rfl) ?_
  intro p e s m args below meth c Q A S hin hret hP hK hD hA hS ls hl
  obtain ⟨hx, hb, hml, hown, hts⟩ := id S
  have hl : lv_has ls 3 [(0, .ref h), (1, .int x)] := hl
  have kk0 : (0 : Int32).toInt = 0 := by decide
  have kk2 : (2 : Int32).toInt = 2 := by decide
  have lk0 := hts (.fieldLink RX1 21 "AbbeyHours$DayTable" "cells" "[I") (List.mem_cons_of_mem _ (List.mem_append_left _ (List.mem_of_getElem? (i := 0) rfl)))
  have lk1 := hts (.methodLink RX1 9 Lib.Math.max.name) (List.mem_cons_of_mem _ (List.mem_append_left _ (List.mem_of_getElem? (i := 1) rfl)))
  have lk2 := hts (.static Lib.Math.max.name) (List.mem_cons_of_mem _ (List.mem_append_left _ (List.mem_of_getElem? (i := 2) rfl)))
  have lk3 := hts (.initialized "java/lang/Math") (List.mem_cons_of_mem _ (List.mem_append_left _ (List.mem_of_getElem? (i := 3) rfl)))
  have lk4 := hts (.code Lib.Math.max.name Lib.Math.max.code 2 (some .int)) (List.mem_cons_of_mem _ (List.mem_append_left _ (List.mem_of_getElem? (i := 4) rfl)))
  have lk5 := hts (.arrayClass .int) (List.mem_cons_of_mem _ (List.mem_append_left _ (List.mem_of_getElem? (i := 5) rfl)))
  have lk6 := hts (.methodLink RX1 33 arraycopyName) (List.mem_cons_of_mem _ (List.mem_append_left _ (List.mem_of_getElem? (i := 6) rfl)))
  have lk7 := hts (.native arraycopyName) (List.mem_cons_of_mem _ (List.mem_append_left _ (List.mem_of_getElem? (i := 7) rfl)))
  have lk8 := hts (.static arraycopyName) (List.mem_cons_of_mem _ (List.mem_append_left _ (List.mem_of_getElem? (i := 8) rfl)))
  have lk9 := hts (.initialized "java/lang/System") (List.mem_cons_of_mem _ (List.mem_append_left _ (List.mem_of_getElem? (i := 9) rfl)))
  refine lv_iload_n hx hb dX1_grow_0 rfl (lv_at hl 1 rfl) ?_
  refine lv_iconst (v := 2) hx hb dX1_grow_1 (by decide) ?_
  refine lv_aload_n hx hb dX1_grow_2 rfl (lv_at hl 0 rfl) ?_
  refine va_get (D := D) (ci := 1) (v := .ref ac) (C := RX1) (T := TX1) (N := 2) hx hb hts in_v4_grow_X1 hown hK.1 hP 0 rfl rfl 1 (by decide) lk0 (fun _ h9 => h9) rfl dX1_grow_3 ?_
  refine va_alen hx hb hK.1 hP 1 0 rfl rfl rfl dX1_grow_6 ?_
  refine lv_topi (fun x_1 ex_1 => ?_)
  have tx_1 : x_1.toInt = L := by rw [ex_1]; exact nI_toInt (by omega)
  refine lv_imul hx hb dX1_grow_7 ?_
  refine lv_topi (fun x_2 ex_2 => ?_)
  first | have tx_2 := t_mulL kk2 ex_2 (by omega) (by omega) | skip
  refine va_mmax hx hb (hml.trans hl.1.symm) hown lk1 lk2 lk3 lk4 (Nat.le_of_ble_eq_true rfl) (Nat.le_of_ble_eq_true rfl) (Nat.le_of_ble_eq_true rfl) (by show 0 ≤ 2 * L; omega) dX1_grow_8 ?_
  refine lv_topi (fun x_3 ex_3 => ?_)
  have tx_3 := t_max ex_3
  refine newI (atype := .int) (ty := .int) (N' := (2 * L)) hx hb lk5 rfl 0 rfl ra_int hK hP hD hS hA (nz_int (2 * L)) (fun z => by have := t_lt z; omega) (by have := t_cl (x := x_3) (by omega); omega) (by show (2 * L) * 4 ≤ 536870912; omega) (Nat.le_of_ble_eq_true rfl) (by show 0 + (2 * L) ≤ 2 * L; omega) dX1_grow_11 (fun q_4 H hP hD hS => ?_)
  have hP : va_P D vwCl [(h, .inr (1, [.int 4, .ref ac])), (ac, .inl (cI, L, .inl fc)), (q_4, .inl (cI, (2 * L), .inl (fun _ => 0)))] H := hP
  have hD := asD hP hD
  refine lv_astore_n (lv' := [(2, .ref q_4), (0, .ref h), (1, .int x)]) hx hb dX1_grow_13 rfl hl (by decide) rfl (fun ls hl => ?_)
  refine lv_aload_n hx hb dX1_grow_14 rfl (lv_at hl 1 rfl) ?_
  refine va_get (D := D) (ci := 1) (v := .ref ac) (C := RX1) (T := TX1) (N := 2) hx hb hts in_v4_grow_X1 hown hK.1 hP 0 rfl rfl 1 (by decide) lk0 (fun _ h9 => h9) rfl dX1_grow_15 ?_
  refine lv_iconst (v := 0) hx hb dX1_grow_18 (by decide) ?_
  refine lv_aload_n hx hb dX1_grow_19 rfl (lv_at hl 0 rfl) ?_
  refine lv_iconst (v := 0) hx hb dX1_grow_20 (by decide) ?_
  refine lv_aload_n hx hb dX1_grow_21 rfl (lv_at hl 1 rfl) ?_
  refine va_get (D := D) (ci := 1) (v := .ref ac) (C := RX1) (T := TX1) (N := 2) hx hb hts in_v4_grow_X1 hown hK.1 hP 0 rfl rfl 1 (by decide) lk0 (fun _ h9 => h9) rfl dX1_grow_22 ?_
  refine va_alen hx hb hK.1 hP 1 0 rfl rfl rfl dX1_grow_25 ?_
  refine lv_topi (fun x_5 ex_5 => ?_)
  have tx_5 : x_5.toInt = L := by rw [ex_5]; exact nI_toInt (by omega)
  have cpn := t_cl (x := x_5) (by omega)
  refine va_copyi (ty := .int) hx hb (hml.trans hl.1.symm) hown lk6 lk7 lk8 lk9 hK.1 hP hD hS 1 2 0 0 rfl rfl rfl rfl rfl (by decide) (by decide) (fun z => by have := t_lt z; omega) (by show 0 + _ ≤ _; omega) (by show 0 + _ ≤ _; omega) (fun _ _ => rfl) (Nat.le_of_ble_eq_true rfl) (Nat.le_of_ble_eq_true rfl) dX1_grow_26 (fun H locs hP hD hS => ?_)
  obtain ⟨gc, egc⟩ : ∃ z : Nat → Int32, z = va_cpy fc (fun _ => 0) ((0 : Int32).toNatClampNeg) ((0 : Int32).toNatClampNeg) ((x_5 : Int32).toNatClampNeg) := ⟨_, rfl⟩
  rw [← egc] at hP hD
  have hP : va_P D vwCl [(h, .inr (1, [.int 4, .ref ac])), (ac, .inl (cI, L, .inl fc)), (q_4, .inl (cI, (2 * L), .inl gc))] H := hP
  have hD := asD hP hD
  refine lv_aload_n hx hb dX1_grow_29 rfl (lv_at hl 1 rfl) ?_
  refine lv_aload_n hx hb dX1_grow_30 rfl (lv_at hl 0 rfl) ?_
  refine va_put (D := D) (ci := 1) (v := .ref q_4) (ty := .array .int) (C := RX1) (T := TX1) (N := 2) hx hb hts in_v4_grow_X1 tyX1 tyX1_ok nmX1 hown hK.1 hP hD hS 0 rfl rfl 1 (by decide) lk0 (fun _ h9 => h9) rfl (by decide +kernel) rfl rfl (Nat.le_of_ble_eq_true rfl) dX1_grow_31 (fun H locs hP hD hS => ?_)
  have hP : va_P D vwCl [(h, .inr (1, [.int 4, .ref q_4])), (ac, .inl (cI, L, .inl fc)), (q_4, .inl (cI, (2 * L), .inl gc))] H := hP
  have hD := asD hP hD
  refine W.widen (k := 1) (n := 2 * L) (by omega) (by omega) ?_
  exact hret (q_4, (2 * L), gc) _ _ _ _ (show (2 * L) = 2 * L ∧ InR gc (2 * L) (-1) 24 from ⟨rfl, by rw [egc]; exact hr.cpy (by omega) (by omega) (by omega)⟩) (hP.sub [0, 2] rfl) (hD.sub [0, 2] (by decide +kernel) rfl) hS dX1_grow_34

theorem in_v4_putg_X1 : ∀ w ∈ wsX10, w ∈ wsX1_put := tl_X1_put_X1
set_option maxHeartbeats 8000000 in
set_option maxRecDepth 100000 in
theorem v4_putg {l : Launch} {D : va_G} {cI cZ cB : ClassId} {sz : Nat} {h ac L : Nat} {fc : Nat → Int32} {d k x : Int32} (hL : L < 65536) (hL1 : 1 ≤ L) (hd : L < (d.toInt + 1) * 4) (hd2 : (d.toInt + 1) * 4 ≤ 2 * L) (hd0 : 0 ≤ d.toInt) (hd1 : d.toInt ≤ 1094) (hk0 : 0 ≤ k.toInt) (hk1 : k.toInt < 4) (hr : InR fc L (-1) 24) (hx0 : -1 ≤ x.toInt) (hx1 : x.toInt < 24) : Met l yX1_put wsX1_put ({ frames := 2, cells := 1, slots := 2 * L, locals := 82 }) (RW D cI cZ cB [.ref h, .int d, .int k, .int x] sz [(h, .inr (1, [.int 4, .ref ac])), (ac, .inl (cI, L, .inl fc))]) (va_Qv (fun u : Nat × Nat × (Nat → Int32) => u.2.1 = 2 * L ∧ InR u.2.2 u.2.1 (-1) 24) (BW D [(h, .inr (1, [.int 4, .ref ac])), (ac, .inl (cI, L, .inl fc))] sz (fun u : Nat × Nat × (Nat → Int32) => [(h, .inr (1, [.int 4, .ref u.1])), (u.1, .inl (cI, u.2.1, .inl u.2.2))])) (va_A [(h, .inr (1, [.int 4, .ref ac])), (ac, .inl (cI, L, .inl fc))] sz)) 1 (2 * L) (va_A [(h, .inr (1, [.int 4, .ref ac])), (ac, .inl (cI, L, .inl fc))] sz) := by
  refine rw_retv (cc := cX1_put) (maxL := 4) (own := RX1) (by decide) rfl rfl (Nat.le_of_ble_eq_true rfl) ?_
  intro p e s m args below meth c Q A S hin hret hP hK hD hA hS ls hl
  obtain ⟨hx, hb, hml, hown, hts⟩ := id S
  have hl : lv_has ls 4 [(0, .ref h), (1, .int d), (2, .int k), (3, .int x)] := hl
  have kk0 : (0 : Int32).toInt = 0 := by decide
  have kk1 : (1 : Int32).toInt = 1 := by decide
  have kk4 : (4 : Int32).toInt = 4 := by decide
  have lk0 := hts (.fieldLink RX1 15 "AbbeyHours$DayTable" "width" "I") (List.mem_cons_of_mem _ (List.mem_append_left _ (List.mem_of_getElem? (i := 0) rfl)))
  have lk1 := hts (.fieldLink RX1 21 "AbbeyHours$DayTable" "cells" "[I") (List.mem_cons_of_mem _ (List.mem_append_left _ (List.mem_of_getElem? (i := 1) rfl)))
  refine lv_aload_n hx hb dX1_put_0 rfl (lv_at hl 0 rfl) ?_
  refine lv_iload_n hx hb dX1_put_1 rfl (lv_at hl 1 rfl) ?_
  refine lv_iload_n hx hb dX1_put_2 rfl (lv_at hl 2 rfl) ?_
  have hPc := hP.sub (ws' := [(h, .inr (1, [.int 4, .ref ac]))]) [0] rfl
  refine roV (As := [.int d, .int k]) (rest := []) S (d4_isCell  ) (cwV 2 hts gX1_put_X1_isCell rfl rfl rfl ⟨rfl, hd_X1_isCell⟩ ⟨Nat.le_of_ble_eq_true rfl, Nat.le_of_ble_eq_true rfl⟩) hK hPc (va_recv hK.1 hPc (ci := 1) (q0 := 0) rfl rfl) rfl hl.1 rfl (Nat.le_of_ble_eq_true rfl) dX1_put_3 ⟨Nat.le_of_ble_eq_true rfl, Nat.le_of_ble_eq_true rfl⟩ (fun r_1 hw_1 => ?_)
  have hw_1 : (r_1.toInt = 1 ∧ 0 ≤ d.toInt ∧ d.toInt < 1095 ∧ 0 ≤ k.toInt ∧ k.toInt < 4) ∨ (r_1.toInt = 0 ∧ (d.toInt < 0 ∨ 1095 ≤ d.toInt ∨ k.toInt < 0 ∨ 4 ≤ k.toInt)) := hw_1
  refine lv_if_ne (tgt := 10) hx hb dX1_put_6 (by decide) (fun c_2 => ?_) (fun c_2 => ?_)
  · have tc_2 := t_neq c_2
    refine lv_iload_n hx hb dX1_put_10 rfl (lv_at hl 1 rfl) ?_
    refine lv_iconst (v := 1) hx hb dX1_put_11 (by decide) ?_
    refine lv_iadd hx hb dX1_put_12 ?_
    refine lv_topi (fun x_3 ex_3 => ?_)
    first | have tx_3 := t_add ex_3 (by omega) (by omega) | skip
    refine lv_aload_n hx hb dX1_put_13 rfl (lv_at hl 0 rfl) ?_
    refine va_get (D := D) (ci := 1) (v := .int 4) (C := RX1) (T := TX1) (N := 2) hx hb hts in_v4_putg_X1 hown hK.1 hP 0 rfl rfl 0 (by decide) lk0 (fun _ h9 => h9) rfl dX1_put_14 ?_
    refine lv_imul hx hb dX1_put_17 ?_
    refine lv_topi (fun x_4 ex_4 => ?_)
    first | have tx_4 := t_mulK kk4 ex_4 (by omega) (by omega) | skip
    refine lv_aload_n hx hb dX1_put_18 rfl (lv_at hl 0 rfl) ?_
    refine va_get (D := D) (ci := 1) (v := .ref ac) (C := RX1) (T := TX1) (N := 2) hx hb hts in_v4_putg_X1 hown hK.1 hP 0 rfl rfl 1 (by decide) lk1 (fun _ h9 => h9) rfl dX1_put_19 ?_
    refine va_alen hx hb hK.1 hP 1 0 rfl rfl rfl dX1_put_22 ?_
    refine lv_topi (fun x_5 ex_5 => ?_)
    have tx_5 : x_5.toInt = L := by rw [ex_5]; exact nI_toInt (by omega)
    refine lv_icmp_le (tgt := 38) hx hb dX1_put_23 (by decide) (fun c_6 => ?_) (fun c_6 => ?_)
    · have tc_6 := t_le c_6
      exfalso; omega
    · have tc_6 := t_nle c_6
      refine lv_aload_n hx hb dX1_put_26 rfl (lv_at hl 0 rfl) ?_
      refine lv_iload_n hx hb dX1_put_27 rfl (lv_at hl 1 rfl) ?_
      refine lv_iconst (v := 1) hx hb dX1_put_28 (by decide) ?_
      refine lv_iadd hx hb dX1_put_29 ?_
      refine lv_topi (fun x_7 ex_7 => ?_)
      first | have tx_7 := t_add ex_7 (by omega) (by omega) | skip
      refine lv_aload_n hx hb dX1_put_30 rfl (lv_at hl 0 rfl) ?_
      refine va_get (D := D) (ci := 1) (v := .int 4) (C := RX1) (T := TX1) (N := 2) hx hb hts in_v4_putg_X1 hown hK.1 hP 0 rfl rfl 0 (by decide) lk0 (fun _ h9 => h9) rfl dX1_put_31 ?_
      refine lv_imul hx hb dX1_put_34 ?_
      refine lv_topi (fun x_8 ex_8 => ?_)
      first | have tx_8 := t_mulK kk4 ex_8 (by omega) (by omega) | skip
      have hPc := hP.sub (ws' := [(h, .inr (1, [.int 4, .ref ac])), (ac, .inl (cI, L, .inl fc))]) [0, 1] rfl
      refine rwVv (As := [.int x_8]) (rest := []) (wc := [(h, .inr (1, [.int 4, .ref ac])), (ac, .inl (cI, L, .inl fc))]) (wr := []) S (v4_grow  (by omega) (by omega) (by omega) (by omega) (hr)) (cwV 1 hts gX1_put_X1_grow rfl rfl rfl ⟨rfl, hd_X1_grow⟩ ⟨Nat.le_of_ble_eq_true rfl, Nat.le_of_ble_eq_true rfl⟩) hK hP hD hS hA [0, 1] [] rfl rfl (by decide +kernel) (by decide +kernel) (by decide +kernel) (va_recv hK.1 hPc (ci := 1) (q0 := 0) rfl rfl) rfl hl.1 rfl (Nat.le_of_ble_eq_true rfl) dX1_put_35 ⟨Nat.le_of_ble_eq_true rfl, by show 0 + (2 * L) ≤ 2 * L; omega⟩ (fun u_gr H locs hw_gr hP hD hS => ?_)
      obtain ⟨ac1_gr, L1_gr, fc1_gr⟩ := u_gr
      have hw_gr : L1_gr = 2 * L ∧ InR fc1_gr L1_gr (-1) 24 := hw_gr
      have hP : va_P D vwCl [(h, .inr (1, [.int 4, .ref ac1_gr])), (ac1_gr, .inl (cI, L1_gr, .inl fc1_gr))] H := hP
      have hD := asD hP hD
      refine lv_aload_n hx hb dX1_put_38 rfl (lv_at hl 0 rfl) ?_
      refine va_get (D := D) (ci := 1) (v := .ref ac1_gr) (C := RX1) (T := TX1) (N := 2) hx hb hts in_v4_putg_X1 hown hK.1 hP 0 rfl rfl 1 (by decide) lk1 (fun _ h9 => h9) rfl dX1_put_39 ?_
      refine lv_iload_n hx hb dX1_put_42 rfl (lv_at hl 1 rfl) ?_
      refine lv_aload_n hx hb dX1_put_43 rfl (lv_at hl 0 rfl) ?_
      refine va_get (D := D) (ci := 1) (v := .int 4) (C := RX1) (T := TX1) (N := 2) hx hb hts in_v4_putg_X1 hown hK.1 hP 0 rfl rfl 0 (by decide) lk0 (fun _ h9 => h9) rfl dX1_put_44 ?_
      refine lv_imul hx hb dX1_put_47 ?_
      refine lv_topi (fun x_9 ex_9 => ?_)
      first | have tx_9 := t_mulK kk4 ex_9 (by omega) (by omega) | skip
      refine lv_iload_n hx hb dX1_put_48 rfl (lv_at hl 2 rfl) ?_
      refine lv_iadd hx hb dX1_put_49 ?_
      refine lv_topi (fun x_10 ex_10 => ?_)
      first | have tx_10 := t_add ex_10 (by omega) (by omega) | skip
      refine lv_iload_n hx hb dX1_put_50 rfl (lv_at hl 3 rfl) ?_
      refine va_iast hx hb hK.1 hP hD hS 1 0 rfl rfl (t_in (by omega) (by omega)) dX1_put_51 (fun H locs hP hD hS => ?_)
      obtain ⟨gp, egp⟩ : ∃ z : Nat → Int32, z = upd fc1_gr ((x_10 : Int32).toNatClampNeg) x := ⟨_, rfl⟩
      rw [← egp] at hP hD
      have hP : va_P D vwCl [(h, .inr (1, [.int 4, .ref ac1_gr])), (ac1_gr, .inl (cI, L1_gr, .inl gp))] H := hP
      have hD := asD hP hD
      refine W.widen (k := 1) (n := 2 * L) (by omega) (by omega) ?_
      exact hret (ac1_gr, L1_gr, gp) _ _ _ _ (show L1_gr = 2 * L ∧ InR gp L1_gr (-1) 24 from ⟨hw_gr.1, by rw [egp]; exact hw_gr.2.put (by omega) (by omega)⟩) (hP.sub [0, 1] rfl) (hD.sub [0, 1] (by decide +kernel) rfl) hS dX1_put_52
  · have tc_2 := t_eq c_2
    exfalso; omega

theorem in_v5_grow_X1 : ∀ w ∈ wsX10, w ∈ wsX1_grow := tl_X1_grow_X1
set_option maxHeartbeats 8000000 in
set_option maxRecDepth 100000 in
theorem v5_grow {l : Launch} {D : va_G} {cI cZ cB : ClassId} {sz : Nat} {h ac L : Nat} {fc : Nat → Int32} {x : Int32} (hL : L < 65536) (hL1 : 1 ≤ L) (hx0 : 0 ≤ x.toInt) (hx1 : x.toInt ≤ 2 * L) : Met l yX1_grow wsX1_grow ({ frames := 1, cells := 1, slots := 2 * L, locals := 60 }) (RW D cI cZ cB [.ref h, .int x] sz [(h, .inr (1, [.int 5, .ref ac])), (ac, .inl (cI, L, .inl fc))]) (va_Qv (fun u : Nat × Nat × (Nat → Int32) => u.2.1 = 2 * L) (BW D [(h, .inr (1, [.int 5, .ref ac])), (ac, .inl (cI, L, .inl fc))] sz (fun u : Nat × Nat × (Nat → Int32) => [(h, .inr (1, [.int 5, .ref u.1])), (u.1, .inl (cI, u.2.1, .inl u.2.2))])) (va_A [(h, .inr (1, [.int 5, .ref ac])), (ac, .inl (cI, L, .inl fc))] sz)) 1 (2 * L) (va_A [(h, .inr (1, [.int 5, .ref ac])), (ac, .inl (cI, L, .inl fc))] sz) := by
  refine rw_retv (cc := cX1_grow) (maxL := 3) (own := RX1) (by decide) rfl rfl (Nat.le_of_ble_eq_true rfl) ?_
  intro p e s m args below meth c Q A S hin hret hP hK hD hA hS ls hl
  obtain ⟨hx, hb, hml, hown, hts⟩ := id S
  have hl : lv_has ls 3 [(0, .ref h), (1, .int x)] := hl
  have kk0 : (0 : Int32).toInt = 0 := by decide
  have kk2 : (2 : Int32).toInt = 2 := by decide
  have lk0 := hts (.fieldLink RX1 21 "AbbeyHours$DayTable" "cells" "[I") (List.mem_cons_of_mem _ (List.mem_append_left _ (List.mem_of_getElem? (i := 0) rfl)))
  have lk1 := hts (.methodLink RX1 9 Lib.Math.max.name) (List.mem_cons_of_mem _ (List.mem_append_left _ (List.mem_of_getElem? (i := 1) rfl)))
  have lk2 := hts (.static Lib.Math.max.name) (List.mem_cons_of_mem _ (List.mem_append_left _ (List.mem_of_getElem? (i := 2) rfl)))
  have lk3 := hts (.initialized "java/lang/Math") (List.mem_cons_of_mem _ (List.mem_append_left _ (List.mem_of_getElem? (i := 3) rfl)))
  have lk4 := hts (.code Lib.Math.max.name Lib.Math.max.code 2 (some .int)) (List.mem_cons_of_mem _ (List.mem_append_left _ (List.mem_of_getElem? (i := 4) rfl)))
  have lk5 := hts (.arrayClass .int) (List.mem_cons_of_mem _ (List.mem_append_left _ (List.mem_of_getElem? (i := 5) rfl)))
  have lk6 := hts (.methodLink RX1 33 arraycopyName) (List.mem_cons_of_mem _ (List.mem_append_left _ (List.mem_of_getElem? (i := 6) rfl)))
  have lk7 := hts (.native arraycopyName) (List.mem_cons_of_mem _ (List.mem_append_left _ (List.mem_of_getElem? (i := 7) rfl)))
  have lk8 := hts (.static arraycopyName) (List.mem_cons_of_mem _ (List.mem_append_left _ (List.mem_of_getElem? (i := 8) rfl)))
  have lk9 := hts (.initialized "java/lang/System") (List.mem_cons_of_mem _ (List.mem_append_left _ (List.mem_of_getElem? (i := 9) rfl)))
  refine lv_iload_n hx hb dX1_grow_0 rfl (lv_at hl 1 rfl) ?_
  refine lv_iconst (v := 2) hx hb dX1_grow_1 (by decide) ?_
  refine lv_aload_n hx hb dX1_grow_2 rfl (lv_at hl 0 rfl) ?_
  refine va_get (D := D) (ci := 1) (v := .ref ac) (C := RX1) (T := TX1) (N := 2) hx hb hts in_v5_grow_X1 hown hK.1 hP 0 rfl rfl 1 (by decide) lk0 (fun _ h9 => h9) rfl dX1_grow_3 ?_
  refine va_alen hx hb hK.1 hP 1 0 rfl rfl rfl dX1_grow_6 ?_
  refine lv_topi (fun x_1 ex_1 => ?_)
  have tx_1 : x_1.toInt = L := by rw [ex_1]; exact nI_toInt (by omega)
  refine lv_imul hx hb dX1_grow_7 ?_
  refine lv_topi (fun x_2 ex_2 => ?_)
  first | have tx_2 := t_mulL kk2 ex_2 (by omega) (by omega) | skip
  refine va_mmax hx hb (hml.trans hl.1.symm) hown lk1 lk2 lk3 lk4 (Nat.le_of_ble_eq_true rfl) (Nat.le_of_ble_eq_true rfl) (Nat.le_of_ble_eq_true rfl) (by show 0 ≤ 2 * L; omega) dX1_grow_8 ?_
  refine lv_topi (fun x_3 ex_3 => ?_)
  have tx_3 := t_max ex_3
  refine newI (atype := .int) (ty := .int) (N' := (2 * L)) hx hb lk5 rfl 0 rfl ra_int hK hP hD hS hA (nz_int (2 * L)) (fun z => by have := t_lt z; omega) (by have := t_cl (x := x_3) (by omega); omega) (by show (2 * L) * 4 ≤ 536870912; omega) (Nat.le_of_ble_eq_true rfl) (by show 0 + (2 * L) ≤ 2 * L; omega) dX1_grow_11 (fun q_4 H hP hD hS => ?_)
  have hP : va_P D vwCl [(h, .inr (1, [.int 5, .ref ac])), (ac, .inl (cI, L, .inl fc)), (q_4, .inl (cI, (2 * L), .inl (fun _ => 0)))] H := hP
  have hD := asD hP hD
  refine lv_astore_n (lv' := [(2, .ref q_4), (0, .ref h), (1, .int x)]) hx hb dX1_grow_13 rfl hl (by decide) rfl (fun ls hl => ?_)
  refine lv_aload_n hx hb dX1_grow_14 rfl (lv_at hl 1 rfl) ?_
  refine va_get (D := D) (ci := 1) (v := .ref ac) (C := RX1) (T := TX1) (N := 2) hx hb hts in_v5_grow_X1 hown hK.1 hP 0 rfl rfl 1 (by decide) lk0 (fun _ h9 => h9) rfl dX1_grow_15 ?_
  refine lv_iconst (v := 0) hx hb dX1_grow_18 (by decide) ?_
  refine lv_aload_n hx hb dX1_grow_19 rfl (lv_at hl 0 rfl) ?_
  refine lv_iconst (v := 0) hx hb dX1_grow_20 (by decide) ?_
  refine lv_aload_n hx hb dX1_grow_21 rfl (lv_at hl 1 rfl) ?_
  refine va_get (D := D) (ci := 1) (v := .ref ac) (C := RX1) (T := TX1) (N := 2) hx hb hts in_v5_grow_X1 hown hK.1 hP 0 rfl rfl 1 (by decide) lk0 (fun _ h9 => h9) rfl dX1_grow_22 ?_
  refine va_alen hx hb hK.1 hP 1 0 rfl rfl rfl dX1_grow_25 ?_
  refine lv_topi (fun x_5 ex_5 => ?_)
  have tx_5 : x_5.toInt = L := by rw [ex_5]; exact nI_toInt (by omega)
  have cpn := t_cl (x := x_5) (by omega)
  refine va_copyi (ty := .int) hx hb (hml.trans hl.1.symm) hown lk6 lk7 lk8 lk9 hK.1 hP hD hS 1 2 0 0 rfl rfl rfl rfl rfl (by decide) (by decide) (fun z => by have := t_lt z; omega) (by show 0 + _ ≤ _; omega) (by show 0 + _ ≤ _; omega) (fun _ _ => rfl) (Nat.le_of_ble_eq_true rfl) (Nat.le_of_ble_eq_true rfl) dX1_grow_26 (fun H locs hP hD hS => ?_)
  obtain ⟨gc, egc⟩ : ∃ z : Nat → Int32, z = va_cpy fc (fun _ => 0) ((0 : Int32).toNatClampNeg) ((0 : Int32).toNatClampNeg) ((x_5 : Int32).toNatClampNeg) := ⟨_, rfl⟩
  rw [← egc] at hP hD
  have hP : va_P D vwCl [(h, .inr (1, [.int 5, .ref ac])), (ac, .inl (cI, L, .inl fc)), (q_4, .inl (cI, (2 * L), .inl gc))] H := hP
  have hD := asD hP hD
  refine lv_aload_n hx hb dX1_grow_29 rfl (lv_at hl 1 rfl) ?_
  refine lv_aload_n hx hb dX1_grow_30 rfl (lv_at hl 0 rfl) ?_
  refine va_put (D := D) (ci := 1) (v := .ref q_4) (ty := .array .int) (C := RX1) (T := TX1) (N := 2) hx hb hts in_v5_grow_X1 tyX1 tyX1_ok nmX1 hown hK.1 hP hD hS 0 rfl rfl 1 (by decide) lk0 (fun _ h9 => h9) rfl (by decide +kernel) rfl rfl (Nat.le_of_ble_eq_true rfl) dX1_grow_31 (fun H locs hP hD hS => ?_)
  have hP : va_P D vwCl [(h, .inr (1, [.int 5, .ref q_4])), (ac, .inl (cI, L, .inl fc)), (q_4, .inl (cI, (2 * L), .inl gc))] H := hP
  have hD := asD hP hD
  refine W.widen (k := 1) (n := 2 * L) (by omega) (by omega) ?_
  exact hret (q_4, (2 * L), gc) _ _ _ _ (show (2 * L) = 2 * L from rfl) (hP.sub [0, 2] rfl) (hD.sub [0, 2] (by decide +kernel) rfl) hS dX1_grow_34

theorem in_v5_putg_X1 : ∀ w ∈ wsX10, w ∈ wsX1_put := tl_X1_put_X1
set_option maxHeartbeats 8000000 in
set_option maxRecDepth 100000 in
theorem v5_putg {l : Launch} {D : va_G} {cI cZ cB : ClassId} {sz : Nat} {h ac L : Nat} {fc : Nat → Int32} {d k x : Int32} (hL : L < 65536) (hL1 : 1 ≤ L) (hd : L < (d.toInt + 1) * 5) (hd2 : (d.toInt + 1) * 5 ≤ 2 * L) (hd0 : 0 ≤ d.toInt) (hd1 : d.toInt ≤ 1094) (hk0 : 0 ≤ k.toInt) (hk1 : k.toInt < 5) : Met l yX1_put wsX1_put ({ frames := 2, cells := 1, slots := 2 * L, locals := 82 }) (RW D cI cZ cB [.ref h, .int d, .int k, .int x] sz [(h, .inr (1, [.int 5, .ref ac])), (ac, .inl (cI, L, .inl fc))]) (va_Qv (fun u : Nat × Nat × (Nat → Int32) => u.2.1 = 2 * L) (BW D [(h, .inr (1, [.int 5, .ref ac])), (ac, .inl (cI, L, .inl fc))] sz (fun u : Nat × Nat × (Nat → Int32) => [(h, .inr (1, [.int 5, .ref u.1])), (u.1, .inl (cI, u.2.1, .inl u.2.2))])) (va_A [(h, .inr (1, [.int 5, .ref ac])), (ac, .inl (cI, L, .inl fc))] sz)) 1 (2 * L) (va_A [(h, .inr (1, [.int 5, .ref ac])), (ac, .inl (cI, L, .inl fc))] sz) := by
  refine rw_retv (cc := cX1_put) (maxL := 4) (own := RX1) (by decide) rfl rfl (Nat.le_of_ble_eq_true rfl) ?_
  intro p e s m args below meth c Q A S hin hret hP hK hD hA hS ls hl
  obtain ⟨hx, hb, hml, hown, hts⟩ := id S
  have hl : lv_has ls 4 [(0, .ref h), (1, .int d), (2, .int k), (3, .int x)] := hl
  have kk0 : (0 : Int32).toInt = 0 := by decide
  have kk1 : (1 : Int32).toInt = 1 := by decide
  have kk5 : (5 : Int32).toInt = 5 := by decide
  have lk0 := hts (.fieldLink RX1 15 "AbbeyHours$DayTable" "width" "I") (List.mem_cons_of_mem _ (List.mem_append_left _ (List.mem_of_getElem? (i := 0) rfl)))
  have lk1 := hts (.fieldLink RX1 21 "AbbeyHours$DayTable" "cells" "[I") (List.mem_cons_of_mem _ (List.mem_append_left _ (List.mem_of_getElem? (i := 1) rfl)))
  refine lv_aload_n hx hb dX1_put_0 rfl (lv_at hl 0 rfl) ?_
  refine lv_iload_n hx hb dX1_put_1 rfl (lv_at hl 1 rfl) ?_
  refine lv_iload_n hx hb dX1_put_2 rfl (lv_at hl 2 rfl) ?_
  have hPc := hP.sub (ws' := [(h, .inr (1, [.int 5, .ref ac]))]) [0] rfl
  refine roV (As := [.int d, .int k]) (rest := []) S (d5_isCell  ) (cwV 2 hts gX1_put_X1_isCell rfl rfl rfl ⟨rfl, hd_X1_isCell⟩ ⟨Nat.le_of_ble_eq_true rfl, Nat.le_of_ble_eq_true rfl⟩) hK hPc (va_recv hK.1 hPc (ci := 1) (q0 := 0) rfl rfl) rfl hl.1 rfl (Nat.le_of_ble_eq_true rfl) dX1_put_3 ⟨Nat.le_of_ble_eq_true rfl, Nat.le_of_ble_eq_true rfl⟩ (fun r_1 hw_1 => ?_)
  have hw_1 : (r_1.toInt = 1 ∧ 0 ≤ d.toInt ∧ d.toInt < 1095 ∧ 0 ≤ k.toInt ∧ k.toInt < 5) ∨ (r_1.toInt = 0 ∧ (d.toInt < 0 ∨ 1095 ≤ d.toInt ∨ k.toInt < 0 ∨ 5 ≤ k.toInt)) := hw_1
  refine lv_if_ne (tgt := 10) hx hb dX1_put_6 (by decide) (fun c_2 => ?_) (fun c_2 => ?_)
  · have tc_2 := t_neq c_2
    refine lv_iload_n hx hb dX1_put_10 rfl (lv_at hl 1 rfl) ?_
    refine lv_iconst (v := 1) hx hb dX1_put_11 (by decide) ?_
    refine lv_iadd hx hb dX1_put_12 ?_
    refine lv_topi (fun x_3 ex_3 => ?_)
    first | have tx_3 := t_add ex_3 (by omega) (by omega) | skip
    refine lv_aload_n hx hb dX1_put_13 rfl (lv_at hl 0 rfl) ?_
    refine va_get (D := D) (ci := 1) (v := .int 5) (C := RX1) (T := TX1) (N := 2) hx hb hts in_v5_putg_X1 hown hK.1 hP 0 rfl rfl 0 (by decide) lk0 (fun _ h9 => h9) rfl dX1_put_14 ?_
    refine lv_imul hx hb dX1_put_17 ?_
    refine lv_topi (fun x_4 ex_4 => ?_)
    first | have tx_4 := t_mulK kk5 ex_4 (by omega) (by omega) | skip
    refine lv_aload_n hx hb dX1_put_18 rfl (lv_at hl 0 rfl) ?_
    refine va_get (D := D) (ci := 1) (v := .ref ac) (C := RX1) (T := TX1) (N := 2) hx hb hts in_v5_putg_X1 hown hK.1 hP 0 rfl rfl 1 (by decide) lk1 (fun _ h9 => h9) rfl dX1_put_19 ?_
    refine va_alen hx hb hK.1 hP 1 0 rfl rfl rfl dX1_put_22 ?_
    refine lv_topi (fun x_5 ex_5 => ?_)
    have tx_5 : x_5.toInt = L := by rw [ex_5]; exact nI_toInt (by omega)
    refine lv_icmp_le (tgt := 38) hx hb dX1_put_23 (by decide) (fun c_6 => ?_) (fun c_6 => ?_)
    · have tc_6 := t_le c_6
      exfalso; omega
    · have tc_6 := t_nle c_6
      refine lv_aload_n hx hb dX1_put_26 rfl (lv_at hl 0 rfl) ?_
      refine lv_iload_n hx hb dX1_put_27 rfl (lv_at hl 1 rfl) ?_
      refine lv_iconst (v := 1) hx hb dX1_put_28 (by decide) ?_
      refine lv_iadd hx hb dX1_put_29 ?_
      refine lv_topi (fun x_7 ex_7 => ?_)
      first | have tx_7 := t_add ex_7 (by omega) (by omega) | skip
      refine lv_aload_n hx hb dX1_put_30 rfl (lv_at hl 0 rfl) ?_
      refine va_get (D := D) (ci := 1) (v := .int 5) (C := RX1) (T := TX1) (N := 2) hx hb hts in_v5_putg_X1 hown hK.1 hP 0 rfl rfl 0 (by decide) lk0 (fun _ h9 => h9) rfl dX1_put_31 ?_
      refine lv_imul hx hb dX1_put_34 ?_
      refine lv_topi (fun x_8 ex_8 => ?_)
      first | have tx_8 := t_mulK kk5 ex_8 (by omega) (by omega) | skip
      have hPc := hP.sub (ws' := [(h, .inr (1, [.int 5, .ref ac])), (ac, .inl (cI, L, .inl fc))]) [0, 1] rfl
      refine rwVv (As := [.int x_8]) (rest := []) (wc := [(h, .inr (1, [.int 5, .ref ac])), (ac, .inl (cI, L, .inl fc))]) (wr := []) S (v5_grow  (by omega) (by omega) (by omega) (by omega)) (cwV 1 hts gX1_put_X1_grow rfl rfl rfl ⟨rfl, hd_X1_grow⟩ ⟨Nat.le_of_ble_eq_true rfl, Nat.le_of_ble_eq_true rfl⟩) hK hP hD hS hA [0, 1] [] rfl rfl (by decide +kernel) (by decide +kernel) (by decide +kernel) (va_recv hK.1 hPc (ci := 1) (q0 := 0) rfl rfl) rfl hl.1 rfl (Nat.le_of_ble_eq_true rfl) dX1_put_35 ⟨Nat.le_of_ble_eq_true rfl, by show 0 + (2 * L) ≤ 2 * L; omega⟩ (fun u_gr H locs hw_gr hP hD hS => ?_)
      obtain ⟨ac1_gr, L1_gr, fc1_gr⟩ := u_gr
      have hw_gr : L1_gr = 2 * L := hw_gr
      have hP : va_P D vwCl [(h, .inr (1, [.int 5, .ref ac1_gr])), (ac1_gr, .inl (cI, L1_gr, .inl fc1_gr))] H := hP
      have hD := asD hP hD
      refine lv_aload_n hx hb dX1_put_38 rfl (lv_at hl 0 rfl) ?_
      refine va_get (D := D) (ci := 1) (v := .ref ac1_gr) (C := RX1) (T := TX1) (N := 2) hx hb hts in_v5_putg_X1 hown hK.1 hP 0 rfl rfl 1 (by decide) lk1 (fun _ h9 => h9) rfl dX1_put_39 ?_
      refine lv_iload_n hx hb dX1_put_42 rfl (lv_at hl 1 rfl) ?_
      refine lv_aload_n hx hb dX1_put_43 rfl (lv_at hl 0 rfl) ?_
      refine va_get (D := D) (ci := 1) (v := .int 5) (C := RX1) (T := TX1) (N := 2) hx hb hts in_v5_putg_X1 hown hK.1 hP 0 rfl rfl 0 (by decide) lk0 (fun _ h9 => h9) rfl dX1_put_44 ?_
      refine lv_imul hx hb dX1_put_47 ?_
      refine lv_topi (fun x_9 ex_9 => ?_)
      first | have tx_9 := t_mulK kk5 ex_9 (by omega) (by omega) | skip
      refine lv_iload_n hx hb dX1_put_48 rfl (lv_at hl 2 rfl) ?_
      refine lv_iadd hx hb dX1_put_49 ?_
      refine lv_topi (fun x_10 ex_10 => ?_)
      first | have tx_10 := t_add ex_10 (by omega) (by omega) | skip
      refine lv_iload_n hx hb dX1_put_50 rfl (lv_at hl 3 rfl) ?_
      refine va_iast hx hb hK.1 hP hD hS 1 0 rfl rfl (t_in (by omega) (by omega)) dX1_put_51 (fun H locs hP hD hS => ?_)
      obtain ⟨gp, egp⟩ : ∃ z : Nat → Int32, z = upd fc1_gr ((x_10 : Int32).toNatClampNeg) x := ⟨_, rfl⟩
      rw [← egp] at hP hD
      have hP : va_P D vwCl [(h, .inr (1, [.int 5, .ref ac1_gr])), (ac1_gr, .inl (cI, L1_gr, .inl gp))] H := hP
      have hD := asD hP hD
      refine W.widen (k := 1) (n := 2 * L) (by omega) (by omega) ?_
      exact hret (ac1_gr, L1_gr, gp) _ _ _ _ (show L1_gr = 2 * L from hw_gr) (hP.sub [0, 1] rfl) (hD.sub [0, 1] (by decide +kernel) rfl) hS dX1_put_52
  · have tc_2 := t_eq c_2
    exfalso; omega

theorem in_v_share_X2 : ∀ w ∈ wsX20, w ∈ wsX2_share := tl_X2_share_X2
set_option maxHeartbeats 8000000 in
set_option maxRecDepth 100000 in
theorem v_share {l : Launch} {D : va_G} {cI cZ cB : ClassId} {sz : Nat} {h a_holders a_taken ac L hm ma_priests ma_barred ma_cameOn ma_absent ma_absentFrom ma_absentTo : Nat} {mv_size mv_rows : Int32} {fc ft mf_barred mf_cameOn mf_absent mf_absentFrom mf_absentTo : Nat → Int32} {d : Int32} (hL : L < 65536) (hmv_size0 : 0 ≤ mv_size.toInt) (hmv_size1 : mv_size.toInt ≤ 24) (hmv_rows0 : 0 ≤ mv_rows.toInt) (hmv_rows1 : mv_rows.toInt ≤ 60) (hd : (d.toInt + 1) * 4 ≤ L) (hd0 : 0 ≤ d.toInt) (hr : InR fc L (-1) 24) : Met l yX2_share wsX2_share ({ frames := 5, cells := 0, slots := 0, locals := 115 }) (RW D cI cZ cB [.ref h, .ref hm, .int d] sz [(h, .inr (2, [.ref a_holders, .ref a_taken])), (a_holders, .inr (1, [.int 4, .ref ac])), (ac, .inl (cI, L, .inl fc)), (a_taken, .inl (cI, 96, .inl ft)), (hm, .inr (5, [.ref ma_priests, .ref ma_barred, .ref ma_cameOn, .ref ma_absent, .ref ma_absentFrom, .ref ma_absentTo, .int mv_size, .int mv_rows])), (ma_barred, .inl (cI, 24, .inl mf_barred)), (ma_cameOn, .inl (cI, 24, .inl mf_cameOn)), (ma_absent, .inl (cI, 60, .inl mf_absent)), (ma_absentFrom, .inl (cI, 60, .inl mf_absentFrom)), (ma_absentTo, .inl (cI, 60, .inl mf_absentTo))]) (va_Qv (fun u : (Nat → Int32) × (Nat → Int32) => InR u.1 L (-1) 24) (BW D [(h, .inr (2, [.ref a_holders, .ref a_taken])), (a_holders, .inr (1, [.int 4, .ref ac])), (ac, .inl (cI, L, .inl fc)), (a_taken, .inl (cI, 96, .inl ft)), (hm, .inr (5, [.ref ma_priests, .ref ma_barred, .ref ma_cameOn, .ref ma_absent, .ref ma_absentFrom, .ref ma_absentTo, .int mv_size, .int mv_rows])), (ma_barred, .inl (cI, 24, .inl mf_barred)), (ma_cameOn, .inl (cI, 24, .inl mf_cameOn)), (ma_absent, .inl (cI, 60, .inl mf_absent)), (ma_absentFrom, .inl (cI, 60, .inl mf_absentFrom)), (ma_absentTo, .inl (cI, 60, .inl mf_absentTo))] sz (fun u : (Nat → Int32) × (Nat → Int32) => [(h, .inr (2, [.ref a_holders, .ref a_taken])), (a_holders, .inr (1, [.int 4, .ref ac])), (ac, .inl (cI, L, .inl u.1)), (a_taken, .inl (cI, 96, .inl u.2)), (hm, .inr (5, [.ref ma_priests, .ref ma_barred, .ref ma_cameOn, .ref ma_absent, .ref ma_absentFrom, .ref ma_absentTo, .int mv_size, .int mv_rows])), (ma_barred, .inl (cI, 24, .inl mf_barred)), (ma_cameOn, .inl (cI, 24, .inl mf_cameOn)), (ma_absent, .inl (cI, 60, .inl mf_absent)), (ma_absentFrom, .inl (cI, 60, .inl mf_absentFrom)), (ma_absentTo, .inl (cI, 60, .inl mf_absentTo))])) (va_A [(h, .inr (2, [.ref a_holders, .ref a_taken])), (a_holders, .inr (1, [.int 4, .ref ac])), (ac, .inl (cI, L, .inl fc)), (a_taken, .inl (cI, 96, .inl ft)), (hm, .inr (5, [.ref ma_priests, .ref ma_barred, .ref ma_cameOn, .ref ma_absent, .ref ma_absentFrom, .ref ma_absentTo, .int mv_size, .int mv_rows])), (ma_barred, .inl (cI, 24, .inl mf_barred)), (ma_cameOn, .inl (cI, 24, .inl mf_cameOn)), (ma_absent, .inl (cI, 60, .inl mf_absent)), (ma_absentFrom, .inl (cI, 60, .inl mf_absentFrom)), (ma_absentTo, .inl (cI, 60, .inl mf_absentTo))] sz)) 0 (0) (va_A [(h, .inr (2, [.ref a_holders, .ref a_taken])), (a_holders, .inr (1, [.int 4, .ref ac])), (ac, .inl (cI, L, .inl fc)), (a_taken, .inl (cI, 96, .inl ft)), (hm, .inr (5, [.ref ma_priests, .ref ma_barred, .ref ma_cameOn, .ref ma_absent, .ref ma_absentFrom, .ref ma_absentTo, .int mv_size, .int mv_rows])), (ma_barred, .inl (cI, 24, .inl mf_barred)), (ma_cameOn, .inl (cI, 24, .inl mf_cameOn)), (ma_absent, .inl (cI, 60, .inl mf_absent)), (ma_absentFrom, .inl (cI, 60, .inl mf_absentFrom)), (ma_absentTo, .inl (cI, 60, .inl mf_absentTo))] sz) := by
  refine rw_retv (cc := cX2_share) (maxL := 4) (own := RX2) (by decide) rfl rfl (Nat.le_of_ble_eq_true rfl) ?_
  intro p e s m args below meth c Q A S hin hret hP hK hD hA hS ls hl
  obtain ⟨hx, hb, hml, hown, hts⟩ := id S
  have hl : lv_has ls 4 [(0, .ref h), (1, .ref hm), (2, .int d)] := hl
  have kkm1 : (-1 : Int32).toInt = -1 := by decide
  have kk0 : (0 : Int32).toInt = 0 := by decide
  have kk1 : (1 : Int32).toInt = 1 := by decide
  have kk4 : (4 : Int32).toInt = 4 := by decide
  have lk0 := hts (.fieldLink RX2 14 "AbbeyHours$Duties" "holders" "LAbbeyHours$DayTable;") (mc_X2_share_r1 _ (List.mem_of_getElem? (i := 0) rfl))
  refine lv_iconst (v := 0) hx hb dX2_share_0 (by decide) ?_
  refine lv_istore_n (lv' := [(3, .int 0), (0, .ref h), (1, .ref hm), (2, .int d)]) hx hb dX2_share_1 rfl hl (by decide) rfl (fun ls hl => ?_)
  have loop2 : ∀ (fuel : Nat) (j : Int32) (fx : Nat → Int32), 4 - j.toInt < (fuel : Int) → (0 ≤ j.toInt) → (j.toInt ≤ 4) → (InR fx L (-1) 24) → ∀ (H : Heap) (locs : List Loc), va_P D vwCl [(h, .inr (2, [.ref a_holders, .ref a_taken])), (a_holders, .inr (1, [.int 4, .ref ac])), (ac, .inl (cI, L, .inl fx)), (a_taken, .inl (cI, 96, .inl ft)), (hm, .inr (5, [.ref ma_priests, .ref ma_barred, .ref ma_cameOn, .ref ma_absent, .ref ma_absentFrom, .ref ma_absentTo, .int mv_size, .int mv_rows])), (ma_barred, .inl (cI, 24, .inl mf_barred)), (ma_cameOn, .inl (cI, 24, .inl mf_cameOn)), (ma_absent, .inl (cI, 60, .inl mf_absent)), (ma_absentFrom, .inl (cI, 60, .inl mf_absentFrom)), (ma_absentTo, .inl (cI, 60, .inl mf_absentTo))] H → va_D A [(h, .inr (2, [.ref a_holders, .ref a_taken])), (a_holders, .inr (1, [.int 4, .ref ac])), (ac, .inl (cI, L, .inl fx)), (a_taken, .inl (cI, 96, .inl ft)), (hm, .inr (5, [.ref ma_priests, .ref ma_barred, .ref ma_cameOn, .ref ma_absent, .ref ma_absentFrom, .ref ma_absentTo, .int mv_size, .int mv_rows])), (ma_barred, .inl (cI, 24, .inl mf_barred)), (ma_cameOn, .inl (cI, 24, .inl mf_cameOn)), (ma_absent, .inl (cI, 60, .inl mf_absent)), (ma_absentFrom, .inl (cI, 60, .inl mf_absentFrom)), (ma_absentTo, .inl (cI, 60, .inl mf_absentTo))] → va_S A s.heap H locs → ∀ ls : Array Slot, lv_has ls 4 [(3, .int j), (0, .ref h), (1, .ref hm), (2, .int d)] → W p l e ({ frames := 5, cells := 0, slots := 0, locals := 115 } : Room) s m args below meth c H locs 0 (0) Q (F0 m 2 ls []) := by
    intro fuel
    induction fuel with
    | zero =>
      intro j fx hmu hj0 hj1 hr1 H locs hP hD hS ls hl
      exfalso; omega
    | succ fuel ih2 =>
      intro j fx hmu hj0 hj1 hr1 H locs hP hD hS ls hl
      refine lv_iload_n hx hb dX2_share_2 rfl (lv_at hl 0 rfl) ?_
      refine lv_iconst (v := 4) hx hb dX2_share_3 (by decide) ?_
      refine lv_icmp_ge (tgt := 23) hx hb dX2_share_4 (by decide) (fun c_1 => ?_) (fun c_1 => ?_)
      · have tc_1 := t_le c_1
        refine lv_iconst (v := 0) hx hb dX2_share_23 (by decide) ?_
        refine lv_istore_n (lv' := [(3, .int 0), (0, .ref h), (1, .ref hm), (2, .int d)]) hx hb dX2_share_24 rfl hl (by decide) rfl (fun ls hl => ?_)
        have loop25 : ∀ (fuel : Nat) (j : Int32) (fx2 : Nat → Int32) (ft2 : Nat → Int32), 4 - j.toInt < (fuel : Int) → (0 ≤ j.toInt) → (j.toInt ≤ 4) → (InR fx2 L (-1) 24) → ∀ (H : Heap) (locs : List Loc), va_P D vwCl [(h, .inr (2, [.ref a_holders, .ref a_taken])), (a_holders, .inr (1, [.int 4, .ref ac])), (ac, .inl (cI, L, .inl fx2)), (a_taken, .inl (cI, 96, .inl ft2)), (hm, .inr (5, [.ref ma_priests, .ref ma_barred, .ref ma_cameOn, .ref ma_absent, .ref ma_absentFrom, .ref ma_absentTo, .int mv_size, .int mv_rows])), (ma_barred, .inl (cI, 24, .inl mf_barred)), (ma_cameOn, .inl (cI, 24, .inl mf_cameOn)), (ma_absent, .inl (cI, 60, .inl mf_absent)), (ma_absentFrom, .inl (cI, 60, .inl mf_absentFrom)), (ma_absentTo, .inl (cI, 60, .inl mf_absentTo))] H → va_D A [(h, .inr (2, [.ref a_holders, .ref a_taken])), (a_holders, .inr (1, [.int 4, .ref ac])), (ac, .inl (cI, L, .inl fx2)), (a_taken, .inl (cI, 96, .inl ft2)), (hm, .inr (5, [.ref ma_priests, .ref ma_barred, .ref ma_cameOn, .ref ma_absent, .ref ma_absentFrom, .ref ma_absentTo, .int mv_size, .int mv_rows])), (ma_barred, .inl (cI, 24, .inl mf_barred)), (ma_cameOn, .inl (cI, 24, .inl mf_cameOn)), (ma_absent, .inl (cI, 60, .inl mf_absent)), (ma_absentFrom, .inl (cI, 60, .inl mf_absentFrom)), (ma_absentTo, .inl (cI, 60, .inl mf_absentTo))] → va_S A s.heap H locs → ∀ ls : Array Slot, lv_has ls 4 [(3, .int j), (0, .ref h), (1, .ref hm), (2, .int d)] → W p l e ({ frames := 5, cells := 0, slots := 0, locals := 115 } : Room) s m args below meth c H locs 0 (0) Q (F0 m 25 ls []) := by
          intro fuel
          induction fuel with
          | zero =>
            intro j fx2 ft2 hmu hj0 hj1 hr2 H locs hP hD hS ls hl
            exfalso; omega
          | succ fuel ih25 =>
            intro j fx2 ft2 hmu hj0 hj1 hr2 H locs hP hD hS ls hl
            refine lv_iload_n hx hb dX2_share_25 rfl (lv_at hl 0 rfl) ?_
            refine lv_iconst (v := 4) hx hb dX2_share_26 (by decide) ?_
            refine lv_icmp_ge (tgt := 49) hx hb dX2_share_27 (by decide) (fun c_2 => ?_) (fun c_2 => ?_)
            · have tc_2 := t_le c_2
              exact hret (fx2, ft2) _ _ _ _ (show InR fx2 L (-1) 24 from hr2) (hP.sub [0, 1, 2, 3, 4, 5, 6, 7, 8, 9] rfl) (hD.sub [0, 1, 2, 3, 4, 5, 6, 7, 8, 9] (by decide +kernel) rfl) hS dX2_share_49
            · have tc_2 := t_nle c_2
              refine lv_aload_n hx hb dX2_share_30 rfl (lv_at hl 1 rfl) ?_
              refine lv_iload_n hx hb dX2_share_31 rfl (lv_at hl 3 rfl) ?_
              refine lv_iload_n hx hb dX2_share_32 rfl (lv_at hl 0 rfl) ?_
              refine lv_aload_n hx hb dX2_share_33 rfl (lv_at hl 1 rfl) ?_
              refine lv_aload_n hx hb dX2_share_34 rfl (lv_at hl 2 rfl) ?_
              refine lv_iload_n hx hb dX2_share_35 rfl (lv_at hl 3 rfl) ?_
              refine lv_iload_n hx hb dX2_share_36 rfl (lv_at hl 0 rfl) ?_
              have hPc := hP.sub (ws' := [(h, .inr (2, [.ref a_holders, .ref a_taken])), (a_holders, .inr (1, [.int 4, .ref ac])), (ac, .inl (cI, L, .inl fx2)), (a_taken, .inl (cI, 96, .inl ft2)), (hm, .inr (5, [.ref ma_priests, .ref ma_barred, .ref ma_cameOn, .ref ma_absent, .ref ma_absentFrom, .ref ma_absentTo, .int mv_size, .int mv_rows])), (ma_barred, .inl (cI, 24, .inl mf_barred)), (ma_cameOn, .inl (cI, 24, .inl mf_cameOn)), (ma_absent, .inl (cI, 60, .inl mf_absent)), (ma_absentFrom, .inl (cI, 60, .inl mf_absentFrom)), (ma_absentTo, .inl (cI, 60, .inl mf_absentTo))]) [0, 1, 2, 3, 4, 5, 6, 7, 8, 9] rfl
              refine roV (As := [.ref hm, .int d, .int j]) (rest := [.int j, .int d, .ref h]) S (u_choose  (by omega) (by omega) (by omega) (by omega) (by omega) (by omega) (by omega)) (cwV 3 hts gX2_share_X2_choose rfl rfl rfl ⟨rfl, hd_X2_choose⟩ ⟨Nat.le_of_ble_eq_true rfl, Nat.le_of_ble_eq_true rfl⟩) hK hPc (va_recv hK.1 hPc (ci := 2) (q0 := 0) rfl rfl) rfl hl.1 rfl (Nat.le_of_ble_eq_true rfl) dX2_share_37 ⟨Nat.le_of_ble_eq_true rfl, Nat.le_of_ble_eq_true rfl⟩ (fun r_3 hw_3 => ?_)
              have hw_3 : r_3.toInt = -1 ∨ (0 ≤ r_3.toInt ∧ r_3.toInt < mv_size.toInt) := hw_3
              have hPc := hP.sub (ws' := [(h, .inr (2, [.ref a_holders, .ref a_taken])), (a_holders, .inr (1, [.int 4, .ref ac])), (ac, .inl (cI, L, .inl fx2)), (a_taken, .inl (cI, 96, .inl ft2))]) [0, 1, 2, 3] rfl
              refine rwVv (As := [.int d, .int j, .int r_3]) (rest := []) (wc := [(h, .inr (2, [.ref a_holders, .ref a_taken])), (a_holders, .inr (1, [.int 4, .ref ac])), (ac, .inl (cI, L, .inl fx2)), (a_taken, .inl (cI, 96, .inl ft2))]) (wr := [(hm, .inr (5, [.ref ma_priests, .ref ma_barred, .ref ma_cameOn, .ref ma_absent, .ref ma_absentFrom, .ref ma_absentTo, .int mv_size, .int mv_rows])), (ma_barred, .inl (cI, 24, .inl mf_barred)), (ma_cameOn, .inl (cI, 24, .inl mf_cameOn)), (ma_absent, .inl (cI, 60, .inl mf_absent)), (ma_absentFrom, .inl (cI, 60, .inl mf_absentFrom)), (ma_absentTo, .inl (cI, 60, .inl mf_absentTo))]) S (v_give  (by omega) (by omega) (by omega) (by omega) (by omega) (by omega) (hr2)) (cwV 3 hts gX2_share_X2_give rfl rfl rfl ⟨rfl, hd_X2_give⟩ ⟨Nat.le_of_ble_eq_true rfl, Nat.le_of_ble_eq_true rfl⟩) hK hP hD hS hA [0, 1, 2, 3] [4, 5, 6, 7, 8, 9] rfl rfl (by decide +kernel) (by decide +kernel) (by decide +kernel) (va_recv hK.1 hPc (ci := 2) (q0 := 0) rfl rfl) rfl hl.1 rfl (Nat.le_of_ble_eq_true rfl) dX2_share_40 ⟨Nat.le_of_ble_eq_true rfl, Nat.le_of_ble_eq_true rfl⟩ (fun u_gi H locs hw_gi hP hD hS => ?_)
              obtain ⟨fc1_gi, ft1_gi⟩ := u_gi
              have hw_gi : InR fc1_gi L (-1) 24 := hw_gi
              have hP : va_P D vwCl [(hm, .inr (5, [.ref ma_priests, .ref ma_barred, .ref ma_cameOn, .ref ma_absent, .ref ma_absentFrom, .ref ma_absentTo, .int mv_size, .int mv_rows])), (ma_barred, .inl (cI, 24, .inl mf_barred)), (ma_cameOn, .inl (cI, 24, .inl mf_cameOn)), (ma_absent, .inl (cI, 60, .inl mf_absent)), (ma_absentFrom, .inl (cI, 60, .inl mf_absentFrom)), (ma_absentTo, .inl (cI, 60, .inl mf_absentTo)), (h, .inr (2, [.ref a_holders, .ref a_taken])), (a_holders, .inr (1, [.int 4, .ref ac])), (ac, .inl (cI, L, .inl fc1_gi)), (a_taken, .inl (cI, 96, .inl ft1_gi))] H := hP
              have hD := asD hP hD
              obtain ⟨x_4, ex_4⟩ : ∃ y : Int32, y = j + 1 := ⟨_, rfl⟩
              refine lv_iinc (v := x_4) (lv' := [(3, .int x_4), (0, .ref h), (1, .ref hm), (2, .int d)]) hx hb dX2_share_43 hl (k := 0) rfl (by rw [ex_4]; rfl) (by decide) rfl (fun ls hl => ?_)
              first | have tx_4 := t_add ex_4 (by omega) (by omega) | skip
              refine lv_goto (tgt := 25) hx hb dX2_share_46 (by decide) ?_
              exact ih25 x_4 fc1_gi ft1_gi (by omega) (by omega) (by omega) (hw_gi) _ _ (hP.sub [6, 7, 8, 9, 0, 1, 2, 3, 4, 5] rfl) (hD.sub [6, 7, 8, 9, 0, 1, 2, 3, 4, 5] (by decide +kernel) rfl) hS ls (lv_sub hl [0, 1, 2, 3] rfl)
        exact loop25 ((4 - (0 : Int32).toInt).toNat + 1) 0 fx ft (by omega) (by omega) (by omega) (hr1) _ _ hP hD hS ls (lv_sub hl [0, 1, 2, 3] rfl)
      · have tc_1 := t_nle c_1
        refine lv_aload_n hx hb dX2_share_7 rfl (lv_at hl 1 rfl) ?_
        refine va_get (D := D) (ci := 2) (v := .ref a_holders) (C := RX2) (T := TX2) (N := 2) hx hb hts in_v_share_X2 hown hK.1 hP 0 rfl rfl 0 (by decide) lk0 (fun _ h9 => h9) rfl dX2_share_8 ?_
        refine lv_iload_n hx hb dX2_share_11 rfl (lv_at hl 3 rfl) ?_
        refine lv_iload_n hx hb dX2_share_12 rfl (lv_at hl 0 rfl) ?_
        refine lv_iconst (v := (-1)) hx hb dX2_share_13 (by decide) ?_
        have hPc := hP.sub (ws' := [(a_holders, .inr (1, [.int 4, .ref ac])), (ac, .inl (cI, L, .inl fx))]) [1, 2] rfl
        refine rwVv (As := [.int d, .int j, .int (-1)]) (rest := []) (wc := [(a_holders, .inr (1, [.int 4, .ref ac])), (ac, .inl (cI, L, .inl fx))]) (wr := [(h, .inr (2, [.ref a_holders, .ref a_taken])), (a_taken, .inl (cI, 96, .inl ft)), (hm, .inr (5, [.ref ma_priests, .ref ma_barred, .ref ma_cameOn, .ref ma_absent, .ref ma_absentFrom, .ref ma_absentTo, .int mv_size, .int mv_rows])), (ma_barred, .inl (cI, 24, .inl mf_barred)), (ma_cameOn, .inl (cI, 24, .inl mf_cameOn)), (ma_absent, .inl (cI, 60, .inl mf_absent)), (ma_absentFrom, .inl (cI, 60, .inl mf_absentFrom)), (ma_absentTo, .inl (cI, 60, .inl mf_absentTo))]) S (v_put  (by omega) (by omega) (by omega) (hr1) (by omega) (by omega)) (cwV 3 hts gX2_share_X1_put rfl rfl rfl ⟨rfl, hd_X1_put⟩ ⟨Nat.le_of_ble_eq_true rfl, Nat.le_of_ble_eq_true rfl⟩) hK hP hD hS hA [1, 2] [0, 3, 4, 5, 6, 7, 8, 9] rfl rfl (by decide +kernel) (by decide +kernel) (by decide +kernel) (va_recv hK.1 hPc (ci := 1) (q0 := 0) rfl rfl) rfl hl.1 rfl (Nat.le_of_ble_eq_true rfl) dX2_share_14 ⟨Nat.le_of_ble_eq_true rfl, Nat.le_of_ble_eq_true rfl⟩ (fun u_pu H locs hw_pu hP hD hS => ?_)
        obtain ⟨fc1_pu, rfl⟩ : ∃ z, z = u_pu := ⟨_, rfl⟩
        have hw_pu : InR fc1_pu L (-1) 24 := hw_pu
        have hP : va_P D vwCl [(h, .inr (2, [.ref a_holders, .ref a_taken])), (a_taken, .inl (cI, 96, .inl ft)), (hm, .inr (5, [.ref ma_priests, .ref ma_barred, .ref ma_cameOn, .ref ma_absent, .ref ma_absentFrom, .ref ma_absentTo, .int mv_size, .int mv_rows])), (ma_barred, .inl (cI, 24, .inl mf_barred)), (ma_cameOn, .inl (cI, 24, .inl mf_cameOn)), (ma_absent, .inl (cI, 60, .inl mf_absent)), (ma_absentFrom, .inl (cI, 60, .inl mf_absentFrom)), (ma_absentTo, .inl (cI, 60, .inl mf_absentTo)), (a_holders, .inr (1, [.int 4, .ref ac])), (ac, .inl (cI, L, .inl fc1_pu))] H := hP
        have hD := asD hP hD
        obtain ⟨x_5, ex_5⟩ : ∃ y : Int32, y = j + 1 := ⟨_, rfl⟩
        refine lv_iinc (v := x_5) (lv' := [(3, .int x_5), (0, .ref h), (1, .ref hm), (2, .int d)]) hx hb dX2_share_17 hl (k := 0) rfl (by rw [ex_5]; rfl) (by decide) rfl (fun ls hl => ?_)
        first | have tx_5 := t_add ex_5 (by omega) (by omega) | skip
        refine lv_goto (tgt := 2) hx hb dX2_share_20 (by decide) ?_
        exact ih2 x_5 fc1_pu (by omega) (by omega) (by omega) (hw_pu) _ _ (hP.sub [0, 8, 9, 1, 2, 3, 4, 5, 6, 7] rfl) (hD.sub [0, 8, 9, 1, 2, 3, 4, 5, 6, 7] (by decide +kernel) rfl) hS ls (lv_sub hl [0, 1, 2, 3] rfl)
  exact loop2 ((4 - (0 : Int32).toInt).toNat + 1) 0 fc (by omega) (by omega) (by omega) (hr) _ _ hP hD hS ls (lv_sub hl [0, 1, 2, 3] rfl)

theorem in_v_shareg_X2 : ∀ w ∈ wsX20, w ∈ wsX2_share := tl_X2_share_X2
set_option maxHeartbeats 8000000 in
set_option maxRecDepth 100000 in
theorem v_shareg {l : Launch} {D : va_G} {cI cZ cB : ClassId} {sz : Nat} {h a_holders a_taken ac L hm ma_priests ma_barred ma_cameOn ma_absent ma_absentFrom ma_absentTo : Nat} {mv_size mv_rows : Int32} {fc ft mf_barred mf_cameOn mf_absent mf_absentFrom mf_absentTo : Nat → Int32} {d : Int32} (hL : L < 65536) (hL1 : 1 ≤ L) (hmv_size0 : 0 ≤ mv_size.toInt) (hmv_size1 : mv_size.toInt ≤ 24) (hmv_rows0 : 0 ≤ mv_rows.toInt) (hmv_rows1 : mv_rows.toInt ≤ 60) (hd : L < (d.toInt + 1) * 4) (hd2 : (d.toInt + 1) * 4 ≤ 2 * L) (hd0 : 0 ≤ d.toInt) (hd1 : d.toInt ≤ 1094) (hr : InR fc L (-1) 24) : Met l yX2_share wsX2_share ({ frames := 5, cells := 1, slots := 2 * L, locals := 115 }) (RW D cI cZ cB [.ref h, .ref hm, .int d] sz [(h, .inr (2, [.ref a_holders, .ref a_taken])), (a_holders, .inr (1, [.int 4, .ref ac])), (ac, .inl (cI, L, .inl fc)), (a_taken, .inl (cI, 96, .inl ft)), (hm, .inr (5, [.ref ma_priests, .ref ma_barred, .ref ma_cameOn, .ref ma_absent, .ref ma_absentFrom, .ref ma_absentTo, .int mv_size, .int mv_rows])), (ma_barred, .inl (cI, 24, .inl mf_barred)), (ma_cameOn, .inl (cI, 24, .inl mf_cameOn)), (ma_absent, .inl (cI, 60, .inl mf_absent)), (ma_absentFrom, .inl (cI, 60, .inl mf_absentFrom)), (ma_absentTo, .inl (cI, 60, .inl mf_absentTo))]) (va_Qv (fun u : Nat × Nat × (Nat → Int32) × (Nat → Int32) => u.2.1 = 2 * L ∧ InR u.2.2.1 u.2.1 (-1) 24) (BW D [(h, .inr (2, [.ref a_holders, .ref a_taken])), (a_holders, .inr (1, [.int 4, .ref ac])), (ac, .inl (cI, L, .inl fc)), (a_taken, .inl (cI, 96, .inl ft)), (hm, .inr (5, [.ref ma_priests, .ref ma_barred, .ref ma_cameOn, .ref ma_absent, .ref ma_absentFrom, .ref ma_absentTo, .int mv_size, .int mv_rows])), (ma_barred, .inl (cI, 24, .inl mf_barred)), (ma_cameOn, .inl (cI, 24, .inl mf_cameOn)), (ma_absent, .inl (cI, 60, .inl mf_absent)), (ma_absentFrom, .inl (cI, 60, .inl mf_absentFrom)), (ma_absentTo, .inl (cI, 60, .inl mf_absentTo))] sz (fun u : Nat × Nat × (Nat → Int32) × (Nat → Int32) => [(h, .inr (2, [.ref a_holders, .ref a_taken])), (a_holders, .inr (1, [.int 4, .ref u.1])), (u.1, .inl (cI, u.2.1, .inl u.2.2.1)), (a_taken, .inl (cI, 96, .inl u.2.2.2)), (hm, .inr (5, [.ref ma_priests, .ref ma_barred, .ref ma_cameOn, .ref ma_absent, .ref ma_absentFrom, .ref ma_absentTo, .int mv_size, .int mv_rows])), (ma_barred, .inl (cI, 24, .inl mf_barred)), (ma_cameOn, .inl (cI, 24, .inl mf_cameOn)), (ma_absent, .inl (cI, 60, .inl mf_absent)), (ma_absentFrom, .inl (cI, 60, .inl mf_absentFrom)), (ma_absentTo, .inl (cI, 60, .inl mf_absentTo))])) (va_A [(h, .inr (2, [.ref a_holders, .ref a_taken])), (a_holders, .inr (1, [.int 4, .ref ac])), (ac, .inl (cI, L, .inl fc)), (a_taken, .inl (cI, 96, .inl ft)), (hm, .inr (5, [.ref ma_priests, .ref ma_barred, .ref ma_cameOn, .ref ma_absent, .ref ma_absentFrom, .ref ma_absentTo, .int mv_size, .int mv_rows])), (ma_barred, .inl (cI, 24, .inl mf_barred)), (ma_cameOn, .inl (cI, 24, .inl mf_cameOn)), (ma_absent, .inl (cI, 60, .inl mf_absent)), (ma_absentFrom, .inl (cI, 60, .inl mf_absentFrom)), (ma_absentTo, .inl (cI, 60, .inl mf_absentTo))] sz)) 1 (2 * L) (va_A [(h, .inr (2, [.ref a_holders, .ref a_taken])), (a_holders, .inr (1, [.int 4, .ref ac])), (ac, .inl (cI, L, .inl fc)), (a_taken, .inl (cI, 96, .inl ft)), (hm, .inr (5, [.ref ma_priests, .ref ma_barred, .ref ma_cameOn, .ref ma_absent, .ref ma_absentFrom, .ref ma_absentTo, .int mv_size, .int mv_rows])), (ma_barred, .inl (cI, 24, .inl mf_barred)), (ma_cameOn, .inl (cI, 24, .inl mf_cameOn)), (ma_absent, .inl (cI, 60, .inl mf_absent)), (ma_absentFrom, .inl (cI, 60, .inl mf_absentFrom)), (ma_absentTo, .inl (cI, 60, .inl mf_absentTo))] sz) := by
  refine rw_retv (cc := cX2_share) (maxL := 4) (own := RX2) (by decide) rfl rfl (Nat.le_of_ble_eq_true rfl) ?_
  intro p e s m args below meth c Q A S hin hret hP hK hD hA hS ls hl
  obtain ⟨hx, hb, hml, hown, hts⟩ := id S
  have hl : lv_has ls 4 [(0, .ref h), (1, .ref hm), (2, .int d)] := hl
  have kkm1 : (-1 : Int32).toInt = -1 := by decide
  have kk0 : (0 : Int32).toInt = 0 := by decide
  have kk1 : (1 : Int32).toInt = 1 := by decide
  have kk4 : (4 : Int32).toInt = 4 := by decide
  have lk0 := hts (.fieldLink RX2 14 "AbbeyHours$Duties" "holders" "LAbbeyHours$DayTable;") (mc_X2_share_r1 _ (List.mem_of_getElem? (i := 0) rfl))
  refine lv_iconst (v := 0) hx hb dX2_share_0 (by decide) ?_
  refine lv_istore_n (lv' := [(3, .int 0), (0, .ref h), (1, .ref hm), (2, .int d)]) hx hb dX2_share_1 rfl hl (by decide) rfl (fun ls hl => ?_)
  refine lv_iload_n hx hb dX2_share_2 rfl (lv_at hl 0 rfl) ?_
  refine lv_iconst (v := 4) hx hb dX2_share_3 (by decide) ?_
  refine lv_icmp_ge (tgt := 23) hx hb dX2_share_4 (by decide) (fun c_1 => ?_) (fun c_1 => ?_)
  · exact absurd c_1 (by decide)
  · have tc_1 := t_nle c_1
    refine lv_aload_n hx hb dX2_share_7 rfl (lv_at hl 1 rfl) ?_
    refine va_get (D := D) (ci := 2) (v := .ref a_holders) (C := RX2) (T := TX2) (N := 2) hx hb hts in_v_shareg_X2 hown hK.1 hP 0 rfl rfl 0 (by decide) lk0 (fun _ h9 => h9) rfl dX2_share_8 ?_
    refine lv_iload_n hx hb dX2_share_11 rfl (lv_at hl 3 rfl) ?_
    refine lv_iload_n hx hb dX2_share_12 rfl (lv_at hl 0 rfl) ?_
    refine lv_iconst (v := (-1)) hx hb dX2_share_13 (by decide) ?_
    have hPc := hP.sub (ws' := [(a_holders, .inr (1, [.int 4, .ref ac])), (ac, .inl (cI, L, .inl fc))]) [1, 2] rfl
    refine rwVv (As := [.int d, .int 0, .int (-1)]) (rest := []) (wc := [(a_holders, .inr (1, [.int 4, .ref ac])), (ac, .inl (cI, L, .inl fc))]) (wr := [(h, .inr (2, [.ref a_holders, .ref a_taken])), (a_taken, .inl (cI, 96, .inl ft)), (hm, .inr (5, [.ref ma_priests, .ref ma_barred, .ref ma_cameOn, .ref ma_absent, .ref ma_absentFrom, .ref ma_absentTo, .int mv_size, .int mv_rows])), (ma_barred, .inl (cI, 24, .inl mf_barred)), (ma_cameOn, .inl (cI, 24, .inl mf_cameOn)), (ma_absent, .inl (cI, 60, .inl mf_absent)), (ma_absentFrom, .inl (cI, 60, .inl mf_absentFrom)), (ma_absentTo, .inl (cI, 60, .inl mf_absentTo))]) S (v4_putg  (by omega) (by omega) (by omega) (by omega) (by omega) (by omega) (by omega) (by omega) (hr) (by omega) (by omega)) (cwV 3 hts gX2_share_X1_put rfl rfl rfl ⟨rfl, hd_X1_put⟩ ⟨Nat.le_of_ble_eq_true rfl, Nat.le_of_ble_eq_true rfl⟩) hK hP hD hS hA [1, 2] [0, 3, 4, 5, 6, 7, 8, 9] rfl rfl (by decide +kernel) (by decide +kernel) (by decide +kernel) (va_recv hK.1 hPc (ci := 1) (q0 := 0) rfl rfl) rfl hl.1 rfl (Nat.le_of_ble_eq_true rfl) dX2_share_14 ⟨Nat.le_of_ble_eq_true rfl, by show 0 + (2 * L) ≤ 2 * L; omega⟩ (fun u_pu H locs hw_pu hP hD hS => ?_)
    obtain ⟨ac1_pu, L1_pu, fc1_pu⟩ := u_pu
    have hw_pu : L1_pu = 2 * L ∧ InR fc1_pu L1_pu (-1) 24 := hw_pu
    have hP : va_P D vwCl [(h, .inr (2, [.ref a_holders, .ref a_taken])), (a_taken, .inl (cI, 96, .inl ft)), (hm, .inr (5, [.ref ma_priests, .ref ma_barred, .ref ma_cameOn, .ref ma_absent, .ref ma_absentFrom, .ref ma_absentTo, .int mv_size, .int mv_rows])), (ma_barred, .inl (cI, 24, .inl mf_barred)), (ma_cameOn, .inl (cI, 24, .inl mf_cameOn)), (ma_absent, .inl (cI, 60, .inl mf_absent)), (ma_absentFrom, .inl (cI, 60, .inl mf_absentFrom)), (ma_absentTo, .inl (cI, 60, .inl mf_absentTo)), (a_holders, .inr (1, [.int 4, .ref ac1_pu])), (ac1_pu, .inl (cI, L1_pu, .inl fc1_pu))] H := hP
    have hD := asD hP hD
    first | (have hpg := hw_pu; have hpg1 := hw_pu.1; have hr0 := hw_pu.2) | skip
    obtain ⟨x_2, ex_2⟩ : ∃ y : Int32, y = 0 + 1 := ⟨_, rfl⟩
    obtain rfl : x_2 = 1 := by rw [ex_2]; decide
    refine lv_iinc (v := 1) (lv' := [(3, .int 1), (0, .ref h), (1, .ref hm), (2, .int d)]) hx hb dX2_share_17 hl (k := 0) rfl (by decide) (by decide) rfl (fun ls hl => ?_)
    refine lv_goto (tgt := 2) hx hb dX2_share_20 (by decide) ?_
    have loop2 : ∀ (fuel : Nat) (j : Int32) (fx : Nat → Int32), 4 - j.toInt < (fuel : Int) → (0 ≤ j.toInt) → (j.toInt ≤ 4) → (InR fx L1_pu (-1) 24) → ∀ (H : Heap) (locs : List Loc), va_P D vwCl [(h, .inr (2, [.ref a_holders, .ref a_taken])), (a_taken, .inl (cI, 96, .inl ft)), (hm, .inr (5, [.ref ma_priests, .ref ma_barred, .ref ma_cameOn, .ref ma_absent, .ref ma_absentFrom, .ref ma_absentTo, .int mv_size, .int mv_rows])), (ma_barred, .inl (cI, 24, .inl mf_barred)), (ma_cameOn, .inl (cI, 24, .inl mf_cameOn)), (ma_absent, .inl (cI, 60, .inl mf_absent)), (ma_absentFrom, .inl (cI, 60, .inl mf_absentFrom)), (ma_absentTo, .inl (cI, 60, .inl mf_absentTo)), (a_holders, .inr (1, [.int 4, .ref ac1_pu])), (ac1_pu, .inl (cI, L1_pu, .inl fx))] H → va_D A [(h, .inr (2, [.ref a_holders, .ref a_taken])), (a_taken, .inl (cI, 96, .inl ft)), (hm, .inr (5, [.ref ma_priests, .ref ma_barred, .ref ma_cameOn, .ref ma_absent, .ref ma_absentFrom, .ref ma_absentTo, .int mv_size, .int mv_rows])), (ma_barred, .inl (cI, 24, .inl mf_barred)), (ma_cameOn, .inl (cI, 24, .inl mf_cameOn)), (ma_absent, .inl (cI, 60, .inl mf_absent)), (ma_absentFrom, .inl (cI, 60, .inl mf_absentFrom)), (ma_absentTo, .inl (cI, 60, .inl mf_absentTo)), (a_holders, .inr (1, [.int 4, .ref ac1_pu])), (ac1_pu, .inl (cI, L1_pu, .inl fx))] → va_S A s.heap H locs → ∀ ls : Array Slot, lv_has ls 4 [(3, .int j), (0, .ref h), (1, .ref hm), (2, .int d)] → W p l e ({ frames := 5, cells := 1, slots := 2 * L, locals := 115 } : Room) s m args below meth c H locs 1 (0 + (2 * L)) Q (F0 m 2 ls []) := by
      intro fuel
      induction fuel with
      | zero =>
        intro j fx hmu hj0 hj1 hr1 H locs hP hD hS ls hl
        exfalso; omega
      | succ fuel ih2 =>
        intro j fx hmu hj0 hj1 hr1 H locs hP hD hS ls hl
        refine lv_iload_n hx hb dX2_share_2 rfl (lv_at hl 0 rfl) ?_
        refine lv_iconst (v := 4) hx hb dX2_share_3 (by decide) ?_
        refine lv_icmp_ge (tgt := 23) hx hb dX2_share_4 (by decide) (fun c_3 => ?_) (fun c_3 => ?_)
        · have tc_3 := t_le c_3
          refine lv_iconst (v := 0) hx hb dX2_share_23 (by decide) ?_
          refine lv_istore_n (lv' := [(3, .int 0), (0, .ref h), (1, .ref hm), (2, .int d)]) hx hb dX2_share_24 rfl hl (by decide) rfl (fun ls hl => ?_)
          have loop25 : ∀ (fuel : Nat) (j : Int32) (fx2 : Nat → Int32) (ft2 : Nat → Int32), 4 - j.toInt < (fuel : Int) → (0 ≤ j.toInt) → (j.toInt ≤ 4) → (InR fx2 L1_pu (-1) 24) → ∀ (H : Heap) (locs : List Loc), va_P D vwCl [(h, .inr (2, [.ref a_holders, .ref a_taken])), (a_taken, .inl (cI, 96, .inl ft2)), (hm, .inr (5, [.ref ma_priests, .ref ma_barred, .ref ma_cameOn, .ref ma_absent, .ref ma_absentFrom, .ref ma_absentTo, .int mv_size, .int mv_rows])), (ma_barred, .inl (cI, 24, .inl mf_barred)), (ma_cameOn, .inl (cI, 24, .inl mf_cameOn)), (ma_absent, .inl (cI, 60, .inl mf_absent)), (ma_absentFrom, .inl (cI, 60, .inl mf_absentFrom)), (ma_absentTo, .inl (cI, 60, .inl mf_absentTo)), (a_holders, .inr (1, [.int 4, .ref ac1_pu])), (ac1_pu, .inl (cI, L1_pu, .inl fx2))] H → va_D A [(h, .inr (2, [.ref a_holders, .ref a_taken])), (a_taken, .inl (cI, 96, .inl ft2)), (hm, .inr (5, [.ref ma_priests, .ref ma_barred, .ref ma_cameOn, .ref ma_absent, .ref ma_absentFrom, .ref ma_absentTo, .int mv_size, .int mv_rows])), (ma_barred, .inl (cI, 24, .inl mf_barred)), (ma_cameOn, .inl (cI, 24, .inl mf_cameOn)), (ma_absent, .inl (cI, 60, .inl mf_absent)), (ma_absentFrom, .inl (cI, 60, .inl mf_absentFrom)), (ma_absentTo, .inl (cI, 60, .inl mf_absentTo)), (a_holders, .inr (1, [.int 4, .ref ac1_pu])), (ac1_pu, .inl (cI, L1_pu, .inl fx2))] → va_S A s.heap H locs → ∀ ls : Array Slot, lv_has ls 4 [(3, .int j), (0, .ref h), (1, .ref hm), (2, .int d)] → W p l e ({ frames := 5, cells := 1, slots := 2 * L, locals := 115 } : Room) s m args below meth c H locs 1 (0 + (2 * L)) Q (F0 m 25 ls []) := by
            intro fuel
            induction fuel with
            | zero =>
              intro j fx2 ft2 hmu hj0 hj1 hr2 H locs hP hD hS ls hl
              exfalso; omega
            | succ fuel ih25 =>
              intro j fx2 ft2 hmu hj0 hj1 hr2 H locs hP hD hS ls hl
              refine lv_iload_n hx hb dX2_share_25 rfl (lv_at hl 0 rfl) ?_
              refine lv_iconst (v := 4) hx hb dX2_share_26 (by decide) ?_
              refine lv_icmp_ge (tgt := 49) hx hb dX2_share_27 (by decide) (fun c_4 => ?_) (fun c_4 => ?_)
              · have tc_4 := t_le c_4
                refine W.widen (k := 1) (n := 2 * L) (by omega) (by omega) ?_
                exact hret (ac1_pu, L1_pu, fx2, ft2) _ _ _ _ (show L1_pu = 2 * L ∧ InR fx2 L1_pu (-1) 24 from ⟨hpg.1, hr2⟩) (hP.sub [0, 8, 9, 1, 2, 3, 4, 5, 6, 7] rfl) (hD.sub [0, 8, 9, 1, 2, 3, 4, 5, 6, 7] (by decide +kernel) rfl) hS dX2_share_49
              · have tc_4 := t_nle c_4
                refine lv_aload_n hx hb dX2_share_30 rfl (lv_at hl 1 rfl) ?_
                refine lv_iload_n hx hb dX2_share_31 rfl (lv_at hl 3 rfl) ?_
                refine lv_iload_n hx hb dX2_share_32 rfl (lv_at hl 0 rfl) ?_
                refine lv_aload_n hx hb dX2_share_33 rfl (lv_at hl 1 rfl) ?_
                refine lv_aload_n hx hb dX2_share_34 rfl (lv_at hl 2 rfl) ?_
                refine lv_iload_n hx hb dX2_share_35 rfl (lv_at hl 3 rfl) ?_
                refine lv_iload_n hx hb dX2_share_36 rfl (lv_at hl 0 rfl) ?_
                have hPc := hP.sub (ws' := [(h, .inr (2, [.ref a_holders, .ref a_taken])), (a_holders, .inr (1, [.int 4, .ref ac1_pu])), (ac1_pu, .inl (cI, L1_pu, .inl fx2)), (a_taken, .inl (cI, 96, .inl ft2)), (hm, .inr (5, [.ref ma_priests, .ref ma_barred, .ref ma_cameOn, .ref ma_absent, .ref ma_absentFrom, .ref ma_absentTo, .int mv_size, .int mv_rows])), (ma_barred, .inl (cI, 24, .inl mf_barred)), (ma_cameOn, .inl (cI, 24, .inl mf_cameOn)), (ma_absent, .inl (cI, 60, .inl mf_absent)), (ma_absentFrom, .inl (cI, 60, .inl mf_absentFrom)), (ma_absentTo, .inl (cI, 60, .inl mf_absentTo))]) [0, 8, 9, 1, 2, 3, 4, 5, 6, 7] rfl
                refine roV (As := [.ref hm, .int d, .int j]) (rest := [.int j, .int d, .ref h]) S (u_choose  (by omega) (by omega) (by omega) (by omega) (by omega) (by omega) (by omega)) (cwV 3 hts gX2_share_X2_choose rfl rfl rfl ⟨rfl, hd_X2_choose⟩ ⟨Nat.le_of_ble_eq_true rfl, Nat.le_of_ble_eq_true rfl⟩) hK hPc (va_recv hK.1 hPc (ci := 2) (q0 := 0) rfl rfl) rfl hl.1 rfl (Nat.le_of_ble_eq_true rfl) dX2_share_37 ⟨Nat.le_of_ble_eq_true rfl, by show 0 + (2 * L) ≤ 2 * L; omega⟩ (fun r_5 hw_5 => ?_)
                have hw_5 : r_5.toInt = -1 ∨ (0 ≤ r_5.toInt ∧ r_5.toInt < mv_size.toInt) := hw_5
                have hPc := hP.sub (ws' := [(h, .inr (2, [.ref a_holders, .ref a_taken])), (a_holders, .inr (1, [.int 4, .ref ac1_pu])), (ac1_pu, .inl (cI, L1_pu, .inl fx2)), (a_taken, .inl (cI, 96, .inl ft2))]) [0, 8, 9, 1] rfl
                refine rwVv (As := [.int d, .int j, .int r_5]) (rest := []) (wc := [(h, .inr (2, [.ref a_holders, .ref a_taken])), (a_holders, .inr (1, [.int 4, .ref ac1_pu])), (ac1_pu, .inl (cI, L1_pu, .inl fx2)), (a_taken, .inl (cI, 96, .inl ft2))]) (wr := [(hm, .inr (5, [.ref ma_priests, .ref ma_barred, .ref ma_cameOn, .ref ma_absent, .ref ma_absentFrom, .ref ma_absentTo, .int mv_size, .int mv_rows])), (ma_barred, .inl (cI, 24, .inl mf_barred)), (ma_cameOn, .inl (cI, 24, .inl mf_cameOn)), (ma_absent, .inl (cI, 60, .inl mf_absent)), (ma_absentFrom, .inl (cI, 60, .inl mf_absentFrom)), (ma_absentTo, .inl (cI, 60, .inl mf_absentTo))]) S (v_give  (by omega) (by omega) (by omega) (by omega) (by omega) (by omega) (hr2)) (cwV 3 hts gX2_share_X2_give rfl rfl rfl ⟨rfl, hd_X2_give⟩ ⟨Nat.le_of_ble_eq_true rfl, Nat.le_of_ble_eq_true rfl⟩) hK hP hD hS hA [0, 8, 9, 1] [2, 3, 4, 5, 6, 7] rfl rfl (by decide +kernel) (by decide +kernel) (by decide +kernel) (va_recv hK.1 hPc (ci := 2) (q0 := 0) rfl rfl) rfl hl.1 rfl (Nat.le_of_ble_eq_true rfl) dX2_share_40 ⟨Nat.le_of_ble_eq_true rfl, by show 0 + (2 * L) + 0 ≤ 2 * L; omega⟩ (fun u_gi H locs hw_gi hP hD hS => ?_)
                obtain ⟨fc1_gi, ft1_gi⟩ := u_gi
                have hw_gi : InR fc1_gi L1_pu (-1) 24 := hw_gi
                have hP : va_P D vwCl [(hm, .inr (5, [.ref ma_priests, .ref ma_barred, .ref ma_cameOn, .ref ma_absent, .ref ma_absentFrom, .ref ma_absentTo, .int mv_size, .int mv_rows])), (ma_barred, .inl (cI, 24, .inl mf_barred)), (ma_cameOn, .inl (cI, 24, .inl mf_cameOn)), (ma_absent, .inl (cI, 60, .inl mf_absent)), (ma_absentFrom, .inl (cI, 60, .inl mf_absentFrom)), (ma_absentTo, .inl (cI, 60, .inl mf_absentTo)), (h, .inr (2, [.ref a_holders, .ref a_taken])), (a_holders, .inr (1, [.int 4, .ref ac1_pu])), (ac1_pu, .inl (cI, L1_pu, .inl fc1_gi)), (a_taken, .inl (cI, 96, .inl ft1_gi))] H := hP
                have hD := asD hP hD
                obtain ⟨x_6, ex_6⟩ : ∃ y : Int32, y = j + 1 := ⟨_, rfl⟩
                refine lv_iinc (v := x_6) (lv' := [(3, .int x_6), (0, .ref h), (1, .ref hm), (2, .int d)]) hx hb dX2_share_43 hl (k := 0) rfl (by rw [ex_6]; rfl) (by decide) rfl (fun ls hl => ?_)
                first | have tx_6 := t_add ex_6 (by omega) (by omega) | skip
                refine lv_goto (tgt := 25) hx hb dX2_share_46 (by decide) ?_
                exact ih25 x_6 fc1_gi ft1_gi (by omega) (by omega) (by omega) (hw_gi) _ _ (hP.sub [6, 9, 0, 1, 2, 3, 4, 5, 7, 8] rfl) (hD.sub [6, 9, 0, 1, 2, 3, 4, 5, 7, 8] (by decide +kernel) rfl) hS ls (lv_sub hl [0, 1, 2, 3] rfl)
          exact loop25 ((4 - (0 : Int32).toInt).toNat + 1) 0 fx ft (by omega) (by omega) (by omega) (hr1) _ _ hP hD hS ls (lv_sub hl [0, 1, 2, 3] rfl)
        · have tc_3 := t_nle c_3
          refine lv_aload_n hx hb dX2_share_7 rfl (lv_at hl 1 rfl) ?_
          refine va_get (D := D) (ci := 2) (v := .ref a_holders) (C := RX2) (T := TX2) (N := 2) hx hb hts in_v_shareg_X2 hown hK.1 hP 0 rfl rfl 0 (by decide) lk0 (fun _ h9 => h9) rfl dX2_share_8 ?_
          refine lv_iload_n hx hb dX2_share_11 rfl (lv_at hl 3 rfl) ?_
          refine lv_iload_n hx hb dX2_share_12 rfl (lv_at hl 0 rfl) ?_
          refine lv_iconst (v := (-1)) hx hb dX2_share_13 (by decide) ?_
          have hPc := hP.sub (ws' := [(a_holders, .inr (1, [.int 4, .ref ac1_pu])), (ac1_pu, .inl (cI, L1_pu, .inl fx))]) [8, 9] rfl
          refine rwVv (As := [.int d, .int j, .int (-1)]) (rest := []) (wc := [(a_holders, .inr (1, [.int 4, .ref ac1_pu])), (ac1_pu, .inl (cI, L1_pu, .inl fx))]) (wr := [(h, .inr (2, [.ref a_holders, .ref a_taken])), (a_taken, .inl (cI, 96, .inl ft)), (hm, .inr (5, [.ref ma_priests, .ref ma_barred, .ref ma_cameOn, .ref ma_absent, .ref ma_absentFrom, .ref ma_absentTo, .int mv_size, .int mv_rows])), (ma_barred, .inl (cI, 24, .inl mf_barred)), (ma_cameOn, .inl (cI, 24, .inl mf_cameOn)), (ma_absent, .inl (cI, 60, .inl mf_absent)), (ma_absentFrom, .inl (cI, 60, .inl mf_absentFrom)), (ma_absentTo, .inl (cI, 60, .inl mf_absentTo))]) S (v_put  (by omega) (by omega) (by omega) (hr1) (by omega) (by omega)) (cwV 3 hts gX2_share_X1_put rfl rfl rfl ⟨rfl, hd_X1_put⟩ ⟨Nat.le_of_ble_eq_true rfl, Nat.le_of_ble_eq_true rfl⟩) hK hP hD hS hA [8, 9] [0, 1, 2, 3, 4, 5, 6, 7] rfl rfl (by decide +kernel) (by decide +kernel) (by decide +kernel) (va_recv hK.1 hPc (ci := 1) (q0 := 0) rfl rfl) rfl hl.1 rfl (Nat.le_of_ble_eq_true rfl) dX2_share_14 ⟨Nat.le_of_ble_eq_true rfl, by show 0 + (2 * L) + 0 ≤ 2 * L; omega⟩ (fun u_pu H locs hw_pu hP hD hS => ?_)
          obtain ⟨fc1_pu, rfl⟩ : ∃ z, z = u_pu := ⟨_, rfl⟩
          have hw_pu : InR fc1_pu L1_pu (-1) 24 := hw_pu
          have hP : va_P D vwCl [(h, .inr (2, [.ref a_holders, .ref a_taken])), (a_taken, .inl (cI, 96, .inl ft)), (hm, .inr (5, [.ref ma_priests, .ref ma_barred, .ref ma_cameOn, .ref ma_absent, .ref ma_absentFrom, .ref ma_absentTo, .int mv_size, .int mv_rows])), (ma_barred, .inl (cI, 24, .inl mf_barred)), (ma_cameOn, .inl (cI, 24, .inl mf_cameOn)), (ma_absent, .inl (cI, 60, .inl mf_absent)), (ma_absentFrom, .inl (cI, 60, .inl mf_absentFrom)), (ma_absentTo, .inl (cI, 60, .inl mf_absentTo)), (a_holders, .inr (1, [.int 4, .ref ac1_pu])), (ac1_pu, .inl (cI, L1_pu, .inl fc1_pu))] H := hP
          have hD := asD hP hD
          first | (have hpg := hw_pu; have hpg1 := hw_pu.1; have hr0 := hw_pu.2) | skip
          obtain ⟨x_7, ex_7⟩ : ∃ y : Int32, y = j + 1 := ⟨_, rfl⟩
          refine lv_iinc (v := x_7) (lv' := [(3, .int x_7), (0, .ref h), (1, .ref hm), (2, .int d)]) hx hb dX2_share_17 hl (k := 0) rfl (by rw [ex_7]; rfl) (by decide) rfl (fun ls hl => ?_)
          first | have tx_7 := t_add ex_7 (by omega) (by omega) | skip
          refine lv_goto (tgt := 2) hx hb dX2_share_20 (by decide) ?_
          exact ih2 x_7 fc1_pu (by omega) (by omega) (by omega) (hw_pu) _ _ hP hD hS ls (lv_sub hl [0, 1, 2, 3] rfl)
    exact loop2 ((4 - (1 : Int32).toInt).toNat + 1) 1 fc1_pu (by omega) (by omega) (by omega) (hr0) _ _ hP hD hS ls (lv_sub hl [0, 1, 2, 3] rfl)

