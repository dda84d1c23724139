theorem in_v5_grow_X1 : ∀ w ∈ wsX10, w ∈ wsX1_grow := tl_X1_grow_X1
set_option maxHeartbeats 8000000 in
set_option maxRecDepth 100000 in
theorem v5_grow {l : Launch} {D : va_G} {cI cZ cB : ClassId} {sz : Nat} {h ac L : Nat} {fc : Nat → Int32} {x : Int32} (hL : L < 65536) (hL1 : 1 ≤ L) (hx0 : 0 ≤ x.toInt) (hx1 : x.toInt ≤ 2 * L) : Met l yX1_grow wsX1_grow ({ frames := 1, cells := 1, slots := 2 * L, locals := 60 }) (RW D cI cZ cB [.ref h, .int x] sz [(h, .inr (1, [.int 5, .ref ac])), (ac, .inl (cI, L, .inl fc))]) (va_Qv (fun u : Nat × Nat × (Nat → Int32) => u.2.1 = 2 * L) (BW D [(h, .inr (1, [.int 5, .ref ac])), (ac, .inl (cI, L, .inl fc))] sz (fun u : Nat × Nat × (Nat → Int32) => [(h, .inr (1, [.int 5, .ref u.1])), (u.1, .inl (cI, u.2.1, .inl u.2.2))])) (va_A [(h, .inr (1, [.int 5, .ref ac])), (ac, .inl (cI, L, .inl fc))] sz)) 1 (2 * L) (va_A [(h, .inr (1, [.int 5, .ref ac])), (ac, .inl (cI, L, .inl fc))] sz) := by
  refine rw_retv (cc := cX1_grow) (maxL := 3) (own := RX1) (by decide) rfl rfl (Nat.le_of_ble_eq_true rfl) ?_
  intro p e s m args below meth c Q A S hin hret hP hK hD hA hS ls hl
  obtain ⟨hx, hb, hml, hown, hts⟩ := id S
  have hl : lv_has ls 3 [(0, .ref h), (1, .int x)] := hl
  have kk0 : (0 : Int32).toInt = 0 := by decide
  have kk2 : (2 : Int32).toInt = 2 := by decide
  have lk0 := hts (.fieldLink RX1 21 "AbbeyHours$DayTable" "cells" "[I") (List.mem_cons_of_mem _ (List.mem_append_left _ (List.mem_of_getElem? (i := 0) rfl)))
  have lk1 := hts (.methodLink RX1 9 Lib.Math.max.name) (List.mem_cons_of_mem _ (List.mem_append_left _ (List.mem_of_getElem? (i := 1) rfl)))
  have lk2 := hts (.static Lib.Math.max.name) (List.mem_cons_of_mem _ (List.mem_append_left _ (List.mem_of_getElem? (i := 2) rfl)))
  have lk3 := hts (.initialized "java/lang/Math") (List.mem_cons_of_mem _ (List.mem_append_left _ (List.mem_of_getElem? (i := 3) rfl)))
  have lk4 := hts (.code Lib.Math.max.name Lib.Math.max.code 2 (some .int)) (List.mem_cons_of_mem _ (List.mem_append_left _ (List.mem_of_getElem? (i := 4) rfl)))
  have lk5 := hts (.arrayClass .int) (List.mem_cons_of_mem _ (List.mem_append_left _ (List.mem_of_getElem? (i := 5) rfl)))
  have lk6 := hts (.methodLink RX1 33 arraycopyName) (List.mem_cons_of_mem _ (List.mem_append_left _ (List.mem_of_getElem? (i := 6) rfl)))
  have lk7 := hts (.native arraycopyName) (List.mem_cons_of_mem _ (List.mem_append_left _ (List.mem_of_getElem? (i := 7) rfl)))
  have lk8 := hts (.static arraycopyName) (List.mem_cons_of_mem _ (List.mem_append_left _ (List.mem_of_getElem? (i := 8) rfl)))
  have lk9 := hts (.initialized "java/lang/System") (List.mem_cons_of_mem _ (List.mem_append_left _ (List.mem_of_getElem? (i := 9) rfl)))
  refine lv_iload_n hx hb dX1_grow_0 rfl (lv_at hl 1 rfl) ?_
  refine lv_iconst (v := 2) hx hb dX1_grow_1 (by decide) ?_
  refine lv_aload_n hx hb dX1_grow_2 rfl (lv_at hl 0 rfl) ?_
  refine va_get (D := D) (ci := 1) (v := .ref ac) (C := RX1) (T := TX1) (N := 2) hx hb hts in_v5_grow_X1 hown hK.1 hP 0 rfl rfl 1 (by decide) lk0 (fun _ h9 => h9) rfl dX1_grow_3 ?_
  refine va_alen hx hb hK.1 hP 1 0 rfl rfl rfl dX1_grow_6 ?_
  refine lv_topi (fun x_1 ex_1 => ?_)
  have tx_1 : x_1.toInt = L := by rw [ex_1]; exact nI_toInt (by omega)
  refine lv_imul hx hb dX1_grow_7 ?_
  refine lv_topi (fun x_2 ex_2 => ?_)
  first | have tx_2 := t_mulL kk2 ex_2 (by omega) (by omega) | skip
  refine va_mmax hx hb (hml.trans hl.1.symm) hown lk1 lk2 lk3 lk4 (Nat.le_of_ble_eq_true rfl) (Nat.le_of_ble_eq_true rfl) (Nat.le_of_ble_eq_true rfl) (by show 0 ≤ 2 * L; omega) dX1_grow_8 ?_
  refine lv_topi (fun x_3 ex_3 => ?_)
  have tx_3 := t_max ex_3
  refine newI (atype := .int) (ty := .int) (N' := (2 * L)) hx hb lk5 rfl 0 rfl ra_int hK hP hD hS hA (nz_int (2 * L)) (fun z => by have := t_lt z; omega) (by have := t_cl (x := x_3) (by omega); omega) (by show (2 * L) * 4 ≤ 536870912; omega) (Nat.le_of_ble_eq_true rfl) (by show 0 + (2 * L) ≤ 2 * L; omega) dX1_grow_11 (fun q_4 H hP hD hS => ?_)
  have hP : va_P D vwCl [(h, .inr (1, [.int 5, .ref ac])), (ac, .inl (cI, L, .inl fc)), (q_4, .inl (cI, (2 * L), .inl (fun _ => 0)))] H := hP
  have hD : va_D A [(h, .inr (1, [.int 5, .ref ac])), (ac, .inl (cI, L, .inl fc)), (q_4, .inl (cI, (2 * L), .inl (fun _ => 0)))] := hD
  refine lv_astore_n (lv' := [(2, .ref q_4), (0, .ref h), (1, .int x)]) hx hb dX1_grow_13 rfl hl (by decide) rfl (fun ls hl => ?_)
  refine lv_aload_n hx hb dX1_grow_14 rfl (lv_at hl 1 rfl) ?_
  refine va_get (D := D) (ci := 1) (v := .ref ac) (C := RX1) (T := TX1) (N := 2) hx hb hts in_v5_grow_X1 hown hK.1 hP 0 rfl rfl 1 (by decide) lk0 (fun _ h9 => h9) rfl dX1_grow_15 ?_
  refine lv_iconst (v := 0) hx hb dX1_grow_18 (by decide) ?_
  refine lv_aload_n hx hb dX1_grow_19 rfl (lv_at hl 0 rfl) ?_
  refine lv_iconst (v := 0) hx hb dX1_grow_20 (by decide) ?_
  refine lv_aload_n hx hb dX1_grow_21 rfl (lv_at hl 1 rfl) ?_
  refine va_get (D := D) (ci := 1) (v := .ref ac) (C := RX1) (T := TX1) (N := 2) hx hb hts in_v5_grow_X1 hown hK.1 hP 0 rfl rfl 1 (by decide) lk0 (fun _ h9 => h9) rfl dX1_grow_22 ?_
  refine va_alen hx hb hK.1 hP 1 0 rfl rfl rfl dX1_grow_25 ?_
  refine lv_topi (fun x_5 ex_5 => ?_)
  have tx_5 : x_5.toInt = L := by rw [ex_5]; exact nI_toInt (by omega)
  have cpn := t_cl (x := x_5) (by omega)
  refine va_copyi (ty := .int) hx hb (hml.trans hl.1.symm) hown lk6 lk7 lk8 lk9 hK.1 hP hD hS 1 2 0 0 rfl rfl rfl rfl rfl (by decide) (by decide) (fun z => by have := t_lt z; omega) (by show 0 + _ ≤ _; omega) (by show 0 + _ ≤ _; omega) (fun _ _ => rfl) (Nat.le_of_ble_eq_true rfl) (Nat.le_of_ble_eq_true rfl) dX1_grow_26 (fun H locs hP hD hS => ?_)
  obtain ⟨gc, egc⟩ : ∃ z : Nat → Int32, z = va_cpy fc (fun _ => 0) ((0 : Int32).toNatClampNeg) ((0 : Int32).toNatClampNeg) ((x_5 : Int32).toNatClampNeg) := ⟨_, rfl⟩
  rw [← egc] at hP hD
  have hP : va_P D vwCl [(h, .inr (1, [.int 5, .ref ac])), (ac, .inl (cI, L, .inl fc)), (q_4, .inl (cI, (2 * L), .inl gc))] H := hP
  have hD : va_D A [(h, .inr (1, [.int 5, .ref ac])), (ac, .inl (cI, L, .inl fc)), (q_4, .inl (cI, (2 * L), .inl gc))] := hD
  refine lv_aload_n hx hb dX1_grow_29 rfl (lv_at hl 1 rfl) ?_
  refine lv_aload_n hx hb dX1_grow_30 rfl (lv_at hl 0 rfl) ?_
  refine va_put (D := D) (ci := 1) (v := .ref q_4) (ty := .array .int) (C := RX1) (T := TX1) (N := 2) hx hb hts in_v5_grow_X1 tyX1 tyX1_ok nmX1 hown hK.1 hP hD hS 0 rfl rfl 1 (by decide) lk0 (fun _ h9 => h9) rfl (by decide +kernel) rfl rfl (Nat.le_of_ble_eq_true rfl) dX1_grow_31 (fun H locs hP hD hS => ?_)
  have hP : va_P D vwCl [(h, .inr (1, [.int 5, .ref q_4])), (ac, .inl (cI, L, .inl fc)), (q_4, .inl (cI, (2 * L), .inl gc))] H := hP
  have hD : va_D A [(h, .inr (1, [.int 5, .ref q_4])), (ac, .inl (cI, L, .inl fc)), (q_4, .inl (cI, (2 * L), .inl gc))] := hD
  refine W.widen (k := 1) (n := 2 * L) (by omega) (by omega) ?_
  exact hret (q_4, (2 * L), gc) _ _ _ _ (show (2 * L) = 2 * L from rfl) (hP.sub [0, 2] rfl) (hD.sub [0, 2] (by decide +kernel) rfl) hS dX1_grow_34

theorem in_v5_putg_X1 : ∀ w ∈ wsX10, w ∈ wsX1_put := tl_X1_put_X1
set_option maxHeartbeats 8000000 in
set_option maxRecDepth 100000 in
theorem v5_putg {l : Launch} {D : va_G} {cI cZ cB : ClassId} {sz : Nat} {h ac L : Nat} {fc : Nat → Int32} {d k x : Int32} (hL : L < 65536) (hL1 : 1 ≤ L) (hd : L < (d.toInt + 1) * 5) (hd2 : (d.toInt + 1) * 5 ≤ 2 * L) (hd0 : 0 ≤ d.toInt) (hd1 : d.toInt ≤ 1094) (hk0 : 0 ≤ k.toInt) (hk1 : k.toInt < 5) : Met l yX1_put wsX1_put ({ frames := 2, cells := 1, slots := 2 * L, locals := 82 }) (RW D cI cZ cB [.ref h, .int d, .int k, .int x] sz [(h, .inr (1, [.int 5, .ref ac])), (ac, .inl (cI, L, .inl fc))]) (va_Qv (fun u : Nat × Nat × (Nat → Int32) => u.2.1 = 2 * L) (BW D [(h, .inr (1, [.int 5, .ref ac])), (ac, .inl (cI, L, .inl fc))] sz (fun u : Nat × Nat × (Nat → Int32) => [(h, .inr (1, [.int 5, .ref u.1])), (u.1, .inl (cI, u.2.1, .inl u.2.2))])) (va_A [(h, .inr (1, [.int 5, .ref ac])), (ac, .inl (cI, L, .inl fc))] sz)) 1 (2 * L) (va_A [(h, .inr (1, [.int 5, .ref ac])), (ac, .inl (cI, L, .inl fc))] sz) := by
  refine rw_retv (cc := cX1_put) (maxL := 4) (own := RX1) (by decide) rfl rfl (Nat.le_of_ble_eq_true rfl) ?_
  intro p e s m args below meth c Q A S hin hret hP hK hD hA hS ls hl
  obtain ⟨hx, hb, hml, hown, hts⟩ := id S
  have hl : lv_has ls 4 [(0, .ref h), (1, .int d), (2, .int k), (3, .int x)] := hl
  have kk0 : (0 : Int32).toInt = 0 := by decide
  have kk1 : (1 : Int32).toInt = 1 := by decide
  have kk5 : (5 : Int32).toInt = 5 := by decide
  have lk0 := hts (.fieldLink RX1 15 "AbbeyHours$DayTable" "width" "I") (List.mem_cons_of_mem _ (List.mem_append_left _ (List.mem_of_getElem? (i := 0) rfl)))
  have lk1 := hts (.fieldLink RX1 21 "AbbeyHours$DayTable" "cells" "[I") (List.mem_cons_of_mem _ (List.mem_append_left _ (List.mem_of_getElem? (i := 1) rfl)))
  refine lv_aload_n hx hb dX1_put_0 rfl (lv_at hl 0 rfl) ?_
  refine lv_iload_n hx hb dX1_put_1 rfl (lv_at hl 1 rfl) ?_
  refine lv_iload_n hx hb dX1_put_2 rfl (lv_at hl 2 rfl) ?_
  have hPc := hP.sub (ws' := [(h, .inr (1, [.int 5, .ref ac]))]) [0] rfl
  refine roV (As := [.int d, .int k]) (rest := []) S (d5_isCell  ) (cwV 2 hts gX1_put_X1_isCell rfl rfl rfl ⟨rfl, hd_X1_isCell⟩ ⟨Nat.le_of_ble_eq_true rfl, Nat.le_of_ble_eq_true rfl⟩) hK hPc (va_recv hK.1 hPc (ci := 1) (q0 := 0) rfl rfl) rfl hl.1 rfl (Nat.le_of_ble_eq_true rfl) dX1_put_3 ⟨Nat.le_of_ble_eq_true rfl, Nat.le_of_ble_eq_true rfl⟩ (fun r_1 hw_1 => ?_)
  have hw_1 : (r_1.toInt = 1 ∧ 0 ≤ d.toInt ∧ d.toInt < 1095 ∧ 0 ≤ k.toInt ∧ k.toInt < 5) ∨ (r_1.toInt = 0 ∧ (d.toInt < 0 ∨ 1095 ≤ d.toInt ∨ k.toInt < 0 ∨ 5 ≤ k.toInt)) := hw_1
  refine lv_if_ne (tgt := 10) hx hb dX1_put_6 (by decide) (fun c_2 => ?_) (fun c_2 => ?_)
  · have tc_2 := t_neq c_2
    refine lv_iload_n hx hb dX1_put_10 rfl (lv_at hl 1 rfl) ?_
    refine lv_iconst (v := 1) hx hb dX1_put_11 (by decide) ?_
    refine lv_iadd hx hb dX1_put_12 ?_
    refine lv_topi (fun x_3 ex_3 => ?_)
    first | have tx_3 := t_add ex_3 (by omega) (by omega) | skip
    refine lv_aload_n hx hb dX1_put_13 rfl (lv_at hl 0 rfl) ?_
    refine va_get (D := D) (ci := 1) (v := .int 5) (C := RX1) (T := TX1) (N := 2) hx hb hts in_v5_putg_X1 hown hK.1 hP 0 rfl rfl 0 (by decide) lk0 (fun _ h9 => h9) rfl dX1_put_14 ?_
    refine lv_imul hx hb dX1_put_17 ?_
    refine lv_topi (fun x_4 ex_4 => ?_)
    first | have tx_4 := t_mulK kk5 ex_4 (by omega) (by omega) | skip
    refine lv_aload_n hx hb dX1_put_18 rfl (lv_at hl 0 rfl) ?_
    refine va_get (D := D) (ci := 1) (v := .ref ac) (C := RX1) (T := TX1) (N := 2) hx hb hts in_v5_putg_X1 hown hK.1 hP 0 rfl rfl 1 (by decide) lk1 (fun _ h9 => h9) rfl dX1_put_19 ?_
    refine va_alen hx hb hK.1 hP 1 0 rfl rfl rfl dX1_put_22 ?_
    refine lv_topi (fun x_5 ex_5 => ?_)
    have tx_5 : x_5.toInt = L := by rw [ex_5]; exact nI_toInt (by omega)
    refine lv_icmp_le (tgt := 38) hx hb dX1_put_23 (by decide) (fun c_6 => ?_) (fun c_6 => ?_)
    · have tc_6 := t_le c_6
      exfalso; omega
    · have tc_6 := t_nle c_6
      refine lv_aload_n hx hb dX1_put_26 rfl (lv_at hl 0 rfl) ?_
      refine lv_iload_n hx hb dX1_put_27 rfl (lv_at hl 1 rfl) ?_
      refine lv_iconst (v := 1) hx hb dX1_put_28 (by decide) ?_
      refine lv_iadd hx hb dX1_put_29 ?_
      refine lv_topi (fun x_7 ex_7 => ?_)
      first | have tx_7 := t_add ex_7 (by omega) (by omega) | skip
      refine lv_aload_n hx hb dX1_put_30 rfl (lv_at hl 0 rfl) ?_
      refine va_get (D := D) (ci := 1) (v := .int 5) (C := RX1) (T := TX1) (N := 2) hx hb hts in_v5_putg_X1 hown hK.1 hP 0 rfl rfl 0 (by decide) lk0 (fun _ h9 => h9) rfl dX1_put_31 ?_
      refine lv_imul hx hb dX1_put_34 ?_
      refine lv_topi (fun x_8 ex_8 => ?_)
      first | have tx_8 := t_mulK kk5 ex_8 (by omega) (by omega) | skip
      have hPc := hP.sub (ws' := [(h, .inr (1, [.int 5, .ref ac])), (ac, .inl (cI, L, .inl fc))]) [0, 1] rfl
      refine rwVv (As := [.int x_8]) (rest := []) (wc := [(h, .inr (1, [.int 5, .ref ac])), (ac, .inl (cI, L, .inl fc))]) (wr := []) S (v5_grow  (by omega) (by omega) (by omega) (by omega)) (cwV 1 hts gX1_put_X1_grow rfl rfl rfl ⟨rfl, hd_X1_grow⟩ ⟨Nat.le_of_ble_eq_true rfl, Nat.le_of_ble_eq_true rfl⟩) hK hP hD hS hA [0, 1] [] rfl rfl (by decide +kernel) (by decide +kernel) (by decide +kernel) (va_recv hK.1 hPc (ci := 1) (q0 := 0) rfl rfl) rfl hl.1 rfl (Nat.le_of_ble_eq_true rfl) dX1_put_35 ⟨Nat.le_of_ble_eq_true rfl, by show 0 + (2 * L) ≤ 2 * L; omega⟩ (fun u_gr H locs hw_gr hP hD hS => ?_)
      obtain ⟨ac1_gr, L1_gr, fc1_gr⟩ := u_gr
      have hw_gr : L1_gr = 2 * L := hw_gr
      have hP : va_P D vwCl [(h, .inr (1, [.int 5, .ref ac1_gr])), (ac1_gr, .inl (cI, L1_gr, .inl fc1_gr))] H := hP
      have hD : va_D A [(h, .inr (1, [.int 5, .ref ac1_gr])), (ac1_gr, .inl (cI, L1_gr, .inl fc1_gr))] := hD
      refine lv_aload_n hx hb dX1_put_38 rfl (lv_at hl 0 rfl) ?_
      refine va_get (D := D) (ci := 1) (v := .ref ac1_gr) (C := RX1) (T := TX1) (N := 2) hx hb hts in_v5_putg_X1 hown hK.1 hP 0 rfl rfl 1 (by decide) lk1 (fun _ h9 => h9) rfl dX1_put_39 ?_
      refine lv_iload_n hx hb dX1_put_42 rfl (lv_at hl 1 rfl) ?_
      refine lv_aload_n hx hb dX1_put_43 rfl (lv_at hl 0 rfl) ?_
      refine va_get (D := D) (ci := 1) (v := .int 5) (C := RX1) (T := TX1) (N := 2) hx hb hts in_v5_putg_X1 hown hK.1 hP 0 rfl rfl 0 (by decide) lk0 (fun _ h9 => h9) rfl dX1_put_44 ?_
      refine lv_imul hx hb dX1_put_47 ?_
      refine lv_topi (fun x_9 ex_9 => ?_)
      first | have tx_9 := t_mulK kk5 ex_9 (by omega) (by omega) | skip
      refine lv_iload_n hx hb dX1_put_48 rfl (lv_at hl 2 rfl) ?_
      refine lv_iadd hx hb dX1_put_49 ?_
      refine lv_topi (fun x_10 ex_10 => ?_)
      first | have tx_10 := t_add ex_10 (by omega) (by omega) | skip
      refine lv_iload_n hx hb dX1_put_50 rfl (lv_at hl 3 rfl) ?_
      refine va_iast hx hb hK.1 hP hD hS 1 0 rfl rfl (t_in (by omega) (by omega)) dX1_put_51 (fun H locs hP hD hS => ?_)
      obtain ⟨gp, egp⟩ : ∃ z : Nat → Int32, z = upd fc1_gr ((x_10 : Int32).toNatClampNeg) x := ⟨_, rfl⟩
      rw [← egp] at hP hD
      have hP : va_P D vwCl [(h, .inr (1, [.int 5, .ref ac1_gr])), (ac1_gr, .inl (cI, L1_gr, .inl gp))] H := hP
      have hD : va_D A [(h, .inr (1, [.int 5, .ref ac1_gr])), (ac1_gr, .inl (cI, L1_gr, .inl gp))] := hD
      refine W.widen (k := 1) (n := 2 * L) (by omega) (by omega) ?_
      exact hret (ac1_gr, L1_gr, gp) _ _ _ _ (show L1_gr = 2 * L from hw_gr) (hP.sub [0, 1] rfl) (hD.sub [0, 1] (by decide +kernel) rfl) hS dX1_put_52
  · have tc_2 := t_eq c_2
    exfalso; omega

