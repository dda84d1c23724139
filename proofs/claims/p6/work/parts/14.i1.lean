theorem in_i_X3_X3 : ∀ w ∈ wsX30, w ∈ wsX3_init := tl_X3_init_X3
set_option maxHeartbeats 8000000 in
set_option maxRecDepth 100000 in
theorem i_X3 {l : Launch} {D : va_G} {cI cZ cB : ClassId} {sz : Nat} {h : Nat}  : Met l yX3_init wsX3_init ({ frames := 1, cells := 6, slots := 890, locals := 12 }) (RW D cI cZ cB [.ref h] sz [(h, .inr (3, [.null, .null, .null, .null, .null, .null, .int 0]))]) (va_Qv (fun u : Nat × Nat × Nat × Nat × Nat × Nat => True) (BW D [(h, .inr (3, [.null, .null, .null, .null, .null, .null, .int 0]))] sz (fun u : Nat × Nat × Nat × Nat × Nat × Nat => [(h, .inr (3, [.ref u.1, .ref u.2.1, .ref u.2.2.1, .ref u.2.2.2.1, .ref u.2.2.2.2.1, .ref u.2.2.2.2.2, .int 0])), (u.1, .inl (cI, 40, .inl (fun _ => 0))), (u.2.1, .inl (cI, 40, .inl (fun _ => 0))), (u.2.2.1, .inl (cI, 40, .inl (fun _ => 0))), (u.2.2.2.1, .inl (cI, 40, .inl (fun _ => 0))), (u.2.2.2.2.1, .inl (cI, 365, .inl (fun _ => 0))), (u.2.2.2.2.2, .inl (cI, 365, .inl (fun _ => 0)))])) (va_A [(h, .inr (3, [.null, .null, .null, .null, .null, .null, .int 0]))] sz)) 6 890 (va_A [(h, .inr (3, [.null, .null, .null, .null, .null, .null, .int 0]))] sz) := by
  refine rw_retv (cc := cX3_init) (maxL := 1) (own := RX3) (by decide) rfl rfl (Nat.le_of_ble_eq_true rfl) ?_
  intro p e s m args below meth c Q A S hin hret hP hK hD hA hS ls hl
  obtain ⟨hx, hb, hml, hown, hts⟩ := id S
  have hl : lv_has ls 1 [(0, .ref h)] := hl
  have kk0 : (0 : Int32).toInt = 0 := by decide
  have kk40 : (40 : Int32).toInt = 40 := by decide
  have kk365 : (365 : Int32).toInt = 365 := by decide
  have lk0 := hts (.methodLink RX3 3 objectInit) (List.mem_cons_of_mem _ (List.mem_append_left _ (List.mem_of_getElem? (i := 0) rfl)))
  have lk1 := hts (.instanceMethod objectInit) (List.mem_cons_of_mem _ (List.mem_append_left _ (List.mem_of_getElem? (i := 1) rfl)))
  have lk2 := hts (.code objectInit ⟨#[0xb1]⟩ 1 none) (List.mem_cons_of_mem _ (List.mem_append_left _ (List.mem_of_getElem? (i := 2) rfl)))
  have lk3 := hts (.arrayClass .int) (List.mem_cons_of_mem _ (List.mem_append_left _ (List.mem_of_getElem? (i := 3) rfl)))
  have lk4 := hts (.fieldLink RX3 11 "AbbeyHours$Feasts" "falls" "[I") (List.mem_cons_of_mem _ (List.mem_append_left _ (List.mem_of_getElem? (i := 4) rfl)))
  have lk5 := hts (.fieldLink RX3 15 "AbbeyHours$Feasts" "ranks" "[I") (List.mem_cons_of_mem _ (List.mem_append_left _ (List.mem_of_getElem? (i := 5) rfl)))
  have lk6 := hts (.fieldLink RX3 18 "AbbeyHours$Feasts" "standsOn" "[I") (List.mem_cons_of_mem _ (List.mem_append_left _ (List.mem_of_getElem? (i := 6) rfl)))
  have lk7 := hts (.fieldLink RX3 21 "AbbeyHours$Feasts" "heldOn" "[I") (List.mem_cons_of_mem _ (List.mem_append_left _ (List.mem_of_getElem? (i := 7) rfl)))
  have lk8 := hts (.fieldLink RX3 24 "AbbeyHours$Feasts" "holder" "[I") (List.mem_cons_of_mem _ (List.mem_append_left _ (List.mem_of_getElem? (i := 8) rfl)))
  have lk9 := hts (.fieldLink RX3 27 "AbbeyHours$Feasts" "standing" "[I") (List.mem_cons_of_mem _ (List.mem_append_left _ (List.mem_of_getElem? (i := 9) rfl)))
  refine lv_aload_n hx hb dX3_init_0 rfl (lv_at hl 0 rfl) ?_
  refine W.objInit hx hb hown lk0 lk1 lk2 rfl (by rw [hml]; exact hl.1) rfl dX3_init_1 (Nat.le_of_ble_eq_true rfl) (Nat.le_of_ble_eq_true rfl) ?_
  refine W.eq (g2 := F0 m 4 ls []) rfl ?_
  refine lv_aload_n hx hb dX3_init_4 rfl (lv_at hl 0 rfl) ?_
  refine lv_bipush (v := 40) hx hb dX3_init_5 (by decide) ?_
  refine newI (atype := .int) (ty := .int) (N' := 40) hx hb lk3 rfl 0 rfl ra_int hK hP hD hS hA (nz_int 40) (by decide) (by decide) (by decide) (Nat.le_of_ble_eq_true rfl) (Nat.le_of_ble_eq_true rfl) dX3_init_7 (fun q_1 H hP hD hS => ?_)
  have hP : va_P D vwCl [(h, .inr (3, [.null, .null, .null, .null, .null, .null, .int 0])), (q_1, .inl (cI, 40, .inl (fun _ => 0)))] H := hP
  have hD := asD hP hD
  refine W.widen (k := 1) (n := 40) (by omega) (by omega) ?_
  refine va_putF (D := D) (ci := 3) (v := .ref q_1) (ty := .array .int) (C := RX3) (T := TX3) (N := 7) hx hb hts in_i_X3_X3 tyX3 tyX3_ok nmX3 hown hK.1 hP hD hS 0 rfl rfl 0 (by decide) lk4 (fun _ h9 => h9) rfl hin rfl (by decide +kernel) rfl rfl (Nat.le_of_ble_eq_true rfl) dX3_init_9 (fun H locs hP hD hS => ?_)
  have hP : va_P D vwCl [(h, .inr (3, [.ref q_1, .null, .null, .null, .null, .null, .int 0])), (q_1, .inl (cI, 40, .inl (fun _ => 0)))] H := hP
  have hD := asD hP hD
  refine lv_aload_n hx hb dX3_init_12 rfl (lv_at hl 0 rfl) ?_
  refine lv_bipush (v := 40) hx hb dX3_init_13 (by decide) ?_
  refine newI (atype := .int) (ty := .int) (N' := 40) hx hb lk3 rfl 0 rfl ra_int hK hP hD hS hA (nz_int 40) (by decide) (by decide) (by decide) (Nat.le_of_ble_eq_true rfl) (Nat.le_of_ble_eq_true rfl) dX3_init_15 (fun q_2 H hP hD hS => ?_)
  have hP : va_P D vwCl [(h, .inr (3, [.ref q_1, .null, .null, .null, .null, .null, .int 0])), (q_1, .inl (cI, 40, .inl (fun _ => 0))), (q_2, .inl (cI, 40, .inl (fun _ => 0)))] H := hP
  have hD := asD hP hD
  refine W.widen (k := 2) (n := 80) (by omega) (by omega) ?_
  refine va_putF (D := D) (ci := 3) (v := .ref q_2) (ty := .array .int) (C := RX3) (T := TX3) (N := 7) hx hb hts in_i_X3_X3 tyX3 tyX3_ok nmX3 hown hK.1 hP hD hS 0 rfl rfl 1 (by decide) lk5 (fun _ h9 => h9) rfl hin rfl (by decide +kernel) rfl rfl (Nat.le_of_ble_eq_true rfl) dX3_init_17 (fun H locs hP hD hS => ?_)
  have hP : va_P D vwCl [(h, .inr (3, [.ref q_1, .ref q_2, .null, .null, .null, .null, .int 0])), (q_1, .inl (cI, 40, .inl (fun _ => 0))), (q_2, .inl (cI, 40, .inl (fun _ => 0)))] H := hP
  have hD := asD hP hD
  refine lv_aload_n hx hb dX3_init_20 rfl (lv_at hl 0 rfl) ?_
  refine lv_bipush (v := 40) hx hb dX3_init_21 (by decide) ?_
  refine newI (atype := .int) (ty := .int) (N' := 40) hx hb lk3 rfl 0 rfl ra_int hK hP hD hS hA (nz_int 40) (by decide) (by decide) (by decide) (Nat.le_of_ble_eq_true rfl) (Nat.le_of_ble_eq_true rfl) dX3_init_23 (fun q_3 H hP hD hS => ?_)
  have hP : va_P D vwCl [(h, .inr (3, [.ref q_1, .ref q_2, .null, .null, .null, .null, .int 0])), (q_1, .inl (cI, 40, .inl (fun _ => 0))), (q_2, .inl (cI, 40, .inl (fun _ => 0))), (q_3, .inl (cI, 40, .inl (fun _ => 0)))] H := hP
  have hD := asD hP hD
  refine W.widen (k := 3) (n := 120) (by omega) (by omega) ?_
  refine va_putF (D := D) (ci := 3) (v := .ref q_3) (ty := .array .int) (C := RX3) (T := TX3) (N := 7) hx hb hts in_i_X3_X3 tyX3 tyX3_ok nmX3 hown hK.1 hP hD hS 0 rfl rfl 2 (by decide) lk6 (fun _ h9 => h9) rfl hin rfl (by decide +kernel) rfl rfl (Nat.le_of_ble_eq_true rfl) dX3_init_25 (fun H locs hP hD hS => ?_)
  have hP : va_P D vwCl [(h, .inr (3, [.ref q_1, .ref q_2, .ref q_3, .null, .null, .null, .int 0])), (q_1, .inl (cI, 40, .inl (fun _ => 0))), (q_2, .inl (cI, 40, .inl (fun _ => 0))), (q_3, .inl (cI, 40, .inl (fun _ => 0)))] H := hP
  have hD := asD hP hD
  refine lv_aload_n hx hb dX3_init_28 rfl (lv_at hl 0 rfl) ?_
  refine lv_bipush (v := 40) hx hb dX3_init_29 (by decide) ?_
  refine newI (atype := .int) (ty := .int) (N' := 40) hx hb lk3 rfl 0 rfl ra_int hK hP hD hS hA (nz_int 40) (by decide) (by decide) (by decide) (Nat.le_of_ble_eq_true rfl) (Nat.le_of_ble_eq_true rfl) dX3_init_31 (fun q_4 H hP hD hS => ?_)
  have hP : va_P D vwCl [(h, .inr (3, [.ref q_1, .ref q_2, .ref q_3, .null, .null, .null, .int 0])), (q_1, .inl (cI, 40, .inl (fun _ => 0))), (q_2, .inl (cI, 40, .inl (fun _ => 0))), (q_3, .inl (cI, 40, .inl (fun _ => 0))), (q_4, .inl (cI, 40, .inl (fun _ => 0)))] H := hP
  have hD := asD hP hD
  refine W.widen (k := 4) (n := 160) (by omega) (by omega) ?_
  refine va_putF (D := D) (ci := 3) (v := .ref q_4) (ty := .array .int) (C := RX3) (T := TX3) (N := 7) hx hb hts in_i_X3_X3 tyX3 tyX3_ok nmX3 hown hK.1 hP hD hS 0 rfl rfl 3 (by decide) lk7 (fun _ h9 => h9) rfl hin rfl (by decide +kernel) rfl rfl (Nat.le_of_ble_eq_true rfl) dX3_init_33 (fun H locs hP hD hS => ?_)
  have hP : va_P D vwCl [(h, .inr (3, [.ref q_1, .ref q_2, .ref q_3, .ref q_4, .null, .null, .int 0])), (q_1, .inl (cI, 40, .inl (fun _ => 0))), (q_2, .inl (cI, 40, .inl (fun _ => 0))), (q_3, .inl (cI, 40, .inl (fun _ => 0))), (q_4, .inl (cI, 40, .inl (fun _ => 0)))] H := hP
  have hD := asD hP hD
  refine lv_aload_n hx hb dX3_init_36 rfl (lv_at hl 0 rfl) ?_
  refine lv_sipush (v := 365) hx hb dX3_init_37 (by decide) ?_
  refine newI (atype := .int) (ty := .int) (N' := 365) hx hb lk3 rfl 0 rfl ra_int hK hP hD hS hA (nz_int 365) (by decide) (by decide) (by decide) (Nat.le_of_ble_eq_true rfl) (Nat.le_of_ble_eq_true rfl) dX3_init_40 (fun q_5 H hP hD hS => ?_)
  have hP : va_P D vwCl [(h, .inr (3, [.ref q_1, .ref q_2, .ref q_3, .ref q_4, .null, .null, .int 0])), (q_1, .inl (cI, 40, .inl (fun _ => 0))), (q_2, .inl (cI, 40, .inl (fun _ => 0))), (q_3, .inl (cI, 40, .inl (fun _ => 0))), (q_4, .inl (cI, 40, .inl (fun _ => 0))), (q_5, .inl (cI, 365, .inl (fun _ => 0)))] H := hP
  have hD := asD hP hD
  refine W.widen (k := 5) (n := 525) (by omega) (by omega) ?_
  refine va_putF (D := D) (ci := 3) (v := .ref q_5) (ty := .array .int) (C := RX3) (T := TX3) (N := 7) hx hb hts in_i_X3_X3 tyX3 tyX3_ok nmX3 hown hK.1 hP hD hS 0 rfl rfl 4 (by decide) lk8 (fun _ h9 => h9) rfl hin rfl (by decide +kernel) rfl rfl (Nat.le_of_ble_eq_true rfl) dX3_init_42 (fun H locs hP hD hS => ?_)
  have hP : va_P D vwCl [(h, .inr (3, [.ref q_1, .ref q_2, .ref q_3, .ref q_4, .ref q_5, .null, .int 0])), (q_1, .inl (cI, 40, .inl (fun _ => 0))), (q_2, .inl (cI, 40, .inl (fun _ => 0))), (q_3, .inl (cI, 40, .inl (fun _ => 0))), (q_4, .inl (cI, 40, .inl (fun _ => 0))), (q_5, .inl (cI, 365, .inl (fun _ => 0)))] H := hP
  have hD := asD hP hD
  refine lv_aload_n hx hb dX3_init_45 rfl (lv_at hl 0 rfl) ?_
  refine lv_sipush (v := 365) hx hb dX3_init_46 (by decide) ?_
  refine newI (atype := .int) (ty := .int) (N' := 365) hx hb lk3 rfl 0 rfl ra_int hK hP hD hS hA (nz_int 365) (by decide) (by decide) (by decide) (Nat.le_of_ble_eq_true rfl) (Nat.le_of_ble_eq_true rfl) dX3_init_49 (fun q_6 H hP hD hS => ?_)
  have hP : va_P D vwCl [(h, .inr (3, [.ref q_1, .ref q_2, .ref q_3, .ref q_4, .ref q_5, .null, .int 0])), (q_1, .inl (cI, 40, .inl (fun _ => 0))), (q_2, .inl (cI, 40, .inl (fun _ => 0))), (q_3, .inl (cI, 40, .inl (fun _ => 0))), (q_4, .inl (cI, 40, .inl (fun _ => 0))), (q_5, .inl (cI, 365, .inl (fun _ => 0))), (q_6, .inl (cI, 365, .inl (fun _ => 0)))] H := hP
  have hD := asD hP hD
  refine W.widen (k := 6) (n := 890) (by omega) (by omega) ?_
  refine va_putF (D := D) (ci := 3) (v := .ref q_6) (ty := .array .int) (C := RX3) (T := TX3) (N := 7) hx hb hts in_i_X3_X3 tyX3 tyX3_ok nmX3 hown hK.1 hP hD hS 0 rfl rfl 5 (by decide) lk9 (fun _ h9 => h9) rfl hin rfl (by decide +kernel) rfl rfl (Nat.le_of_ble_eq_true rfl) dX3_init_51 (fun H locs hP hD hS => ?_)
  have hP : va_P D vwCl [(h, .inr (3, [.ref q_1, .ref q_2, .ref q_3, .ref q_4, .ref q_5, .ref q_6, .int 0])), (q_1, .inl (cI, 40, .inl (fun _ => 0))), (q_2, .inl (cI, 40, .inl (fun _ => 0))), (q_3, .inl (cI, 40, .inl (fun _ => 0))), (q_4, .inl (cI, 40, .inl (fun _ => 0))), (q_5, .inl (cI, 365, .inl (fun _ => 0))), (q_6, .inl (cI, 365, .inl (fun _ => 0)))] H := hP
  have hD := asD hP hD
  refine W.widen (k := 6) (n := 890) (by omega) (by omega) ?_
  exact hret (q_1, q_2, q_3, q_4, q_5, q_6) _ _ _ _ (show True from trivial) (hP.sub [0, 1, 2, 3, 4, 5, 6] rfl) (hD.sub [0, 1, 2, 3, 4, 5, 6] (by decide +kernel) rfl) hS dX3_init_54

theorem in_i_X4_X4 : ∀ w ∈ wsX40, w ∈ wsX4_init := tl_X4_init_X4
set_option maxHeartbeats 8000000 in
set_option maxRecDepth 100000 in
theorem i_X4 {l : Launch} {D : va_G} {cI cZ cB : ClassId} {sz : Nat} {h : Nat}  : Met l yX4_init wsX4_init ({ frames := 1, cells := 9, slots := 360, locals := 12 }) (RW D cI cZ cB [.ref h] sz [(h, .inr (4, [.null, .null, .null, .null, .null, .null, .null, .null, .null, .int 0, .int 0]))]) (va_Qv (fun u : Nat × Nat × Nat × Nat × Nat × Nat × Nat × Nat × Nat => True) (BW D [(h, .inr (4, [.null, .null, .null, .null, .null, .null, .null, .null, .null, .int 0, .int 0]))] sz (fun u : Nat × Nat × Nat × Nat × Nat × Nat × Nat × Nat × Nat => [(h, .inr (4, [.ref u.1, .ref u.2.1, .ref u.2.2.1, .ref u.2.2.2.1, .ref u.2.2.2.2.1, .ref u.2.2.2.2.2.1, .ref u.2.2.2.2.2.2.1, .ref u.2.2.2.2.2.2.2.1, .ref u.2.2.2.2.2.2.2.2, .int 0, .int 0])), (u.1, .inl (cZ, 40, .inl (fun _ => 0))), (u.2.1, .inl (cZ, 40, .inl (fun _ => 0))), (u.2.2.1, .inl (cI, 40, .inl (fun _ => 0))), (u.2.2.2.1, .inl (cI, 40, .inl (fun _ => 0))), (u.2.2.2.2.1, .inl (cI, 40, .inl (fun _ => 0))), (u.2.2.2.2.2.1, .inl (cI, 40, .inl (fun _ => 0))), (u.2.2.2.2.2.2.1, .inl (cI, 40, .inl (fun _ => 0))), (u.2.2.2.2.2.2.2.1, .inl (cI, 40, .inl (fun _ => 0))), (u.2.2.2.2.2.2.2.2, .inl (cI, 40, .inl (fun _ => 0)))])) (va_A [(h, .inr (4, [.null, .null, .null, .null, .null, .null, .null, .null, .null, .int 0, .int 0]))] sz)) 9 360 (va_A [(h, .inr (4, [.null, .null, .null, .null, .null, .null, .null, .null, .null, .int 0, .int 0]))] sz) := by
  refine rw_retv (cc := cX4_init) (maxL := 1) (own := RX4) (by decide) rfl rfl (Nat.le_of_ble_eq_true rfl) ?_
  intro p e s m args below meth c Q A S hin hret hP hK hD hA hS ls hl
  obtain ⟨hx, hb, hml, hown, hts⟩ := id S
  have hl : lv_has ls 1 [(0, .ref h)] := hl
  have kk0 : (0 : Int32).toInt = 0 := by decide
  have kk40 : (40 : Int32).toInt = 40 := by decide
  have lk0 := hts (.methodLink RX4 3 objectInit) (List.mem_cons_of_mem _ (List.mem_append_left _ (List.mem_of_getElem? (i := 0) rfl)))
  have lk1 := hts (.instanceMethod objectInit) (List.mem_cons_of_mem _ (List.mem_append_left _ (List.mem_of_getElem? (i := 1) rfl)))
  have lk2 := hts (.code objectInit ⟨#[0xb1]⟩ 1 none) (List.mem_cons_of_mem _ (List.mem_append_left _ (List.mem_of_getElem? (i := 2) rfl)))
  have lk3 := hts (.arrayClass .boolean) (List.mem_cons_of_mem _ (List.mem_append_left _ (List.mem_of_getElem? (i := 3) rfl)))
  have lk4 := hts (.fieldLink RX4 11 "AbbeyHours$Gifts" "weekly" "[Z") (List.mem_cons_of_mem _ (List.mem_append_left _ (List.mem_of_getElem? (i := 4) rfl)))
  have lk5 := hts (.fieldLink RX4 15 "AbbeyHours$Gifts" "doubled" "[Z") (List.mem_cons_of_mem _ (List.mem_append_left _ (List.mem_of_getElem? (i := 5) rfl)))
  have lk6 := hts (.arrayClass .int) (List.mem_cons_of_mem _ (List.mem_append_left _ (List.mem_of_getElem? (i := 6) rfl)))
  have lk7 := hts (.fieldLink RX4 18 "AbbeyHours$Gifts" "dueOn" "[I") (List.mem_cons_of_mem _ (List.mem_append_left _ (List.mem_of_getElem? (i := 7) rfl)))
  have lk8 := hts (.fieldLink RX4 22 "AbbeyHours$Gifts" "owed" "[I") (List.mem_cons_of_mem _ (List.mem_append_left _ (List.mem_of_getElem? (i := 8) rfl)))
  have lk9 := hts (.fieldLink RX4 25 "AbbeyHours$Gifts" "said" "[I") (List.mem_cons_of_mem _ (List.mem_append_left _ (List.mem_of_getElem? (i := 9) rfl)))
  have lk10 := hts (.fieldLink RX4 28 "AbbeyHours$Gifts" "spared" "[I") (List.mem_cons_of_mem _ (List.mem_append_left _ (List.mem_of_getElem? (i := 10) rfl)))
  have lk11 := hts (.fieldLink RX4 31 "AbbeyHours$Gifts" "leaveOf" "[I") (List.mem_cons_of_mem _ (List.mem_append_left _ (List.mem_of_getElem? (i := 11) rfl)))
  have lk12 := hts (.fieldLink RX4 34 "AbbeyHours$Gifts" "leaveFrom" "[I") (List.mem_cons_of_mem _ (List.mem_append_left _ (List.mem_of_getElem? (i := 12) rfl)))
  have lk13 := hts (.fieldLink RX4 37 "AbbeyHours$Gifts" "leaveTo" "[I") (List.mem_cons_of_mem _ (List.mem_append_left _ (List.mem_of_getElem? (i := 13) rfl)))
  refine lv_aload_n hx hb dX4_init_0 rfl (lv_at hl 0 rfl) ?_
  refine W.objInit hx hb hown lk0 lk1 lk2 rfl (by rw [hml]; exact hl.1) rfl dX4_init_1 (Nat.le_of_ble_eq_true rfl) (Nat.le_of_ble_eq_true rfl) ?_
  refine W.eq (g2 := F0 m 4 ls []) rfl ?_
  refine lv_aload_n hx hb dX4_init_4 rfl (lv_at hl 0 rfl) ?_
  refine lv_bipush (v := 40) hx hb dX4_init_5 (by decide) ?_
  refine newI (atype := .boolean) (ty := .boolean) (N' := 40) hx hb lk3 rfl 1 rfl ra_bool hK hP hD hS hA (nz_boolean 40) (by decide) (by decide) (by decide) (Nat.le_of_ble_eq_true rfl) (Nat.le_of_ble_eq_true rfl) dX4_init_7 (fun q_1 H hP hD hS => ?_)
  have hP : va_P D vwCl [(h, .inr (4, [.null, .null, .null, .null, .null, .null, .null, .null, .null, .int 0, .int 0])), (q_1, .inl (cZ, 40, .inl (fun _ => 0)))] H := hP
  have hD := asD hP hD
  refine W.widen (k := 1) (n := 40) (by omega) (by omega) ?_
  refine va_putF (D := D) (ci := 4) (v := .ref q_1) (ty := .array .boolean) (C := RX4) (T := TX4) (N := 11) hx hb hts in_i_X4_X4 tyX4 tyX4_ok nmX4 hown hK.1 hP hD hS 0 rfl rfl 0 (by decide) lk4 (fun _ h9 => h9) rfl hin rfl (by decide +kernel) rfl rfl (Nat.le_of_ble_eq_true rfl) dX4_init_9 (fun H locs hP hD hS => ?_)
  have hP : va_P D vwCl [(h, .inr (4, [.ref q_1, .null, .null, .null, .null, .null, .null, .null, .null, .int 0, .int 0])), (q_1, .inl (cZ, 40, .inl (fun _ => 0)))] H := hP
  have hD := asD hP hD
  refine lv_aload_n hx hb dX4_init_12 rfl (lv_at hl 0 rfl) ?_
  refine lv_bipush (v := 40) hx hb dX4_init_13 (by decide) ?_
  refine newI (atype := .boolean) (ty := .boolean) (N' := 40) hx hb lk3 rfl 1 rfl ra_bool hK hP hD hS hA (nz_boolean 40) (by decide) (by decide) (by decide) (Nat.le_of_ble_eq_true rfl) (Nat.le_of_ble_eq_true rfl) dX4_init_15 (fun q_2 H hP hD hS => ?_)
  have hP : va_P D vwCl [(h, .inr (4, [.ref q_1, .null, .null, .null, .null, .null, .null, .null, .null, .int 0, .int 0])), (q_1, .inl (cZ, 40, .inl (fun _ => 0))), (q_2, .inl (cZ, 40, .inl (fun _ => 0)))] H := hP
  have hD := asD hP hD
  refine W.widen (k := 2) (n := 80) (by omega) (by omega) ?_
  refine va_putF (D := D) (ci := 4) (v := .ref q_2) (ty := .array .boolean) (C := RX4) (T := TX4) (N := 11) hx hb hts in_i_X4_X4 tyX4 tyX4_ok nmX4 hown hK.1 hP hD hS 0 rfl rfl 1 (by decide) lk5 (fun _ h9 => h9) rfl hin rfl (by decide +kernel) rfl rfl (Nat.le_of_ble_eq_true rfl) dX4_init_17 (fun H locs hP hD hS => ?_)
  have hP : va_P D vwCl [(h, .inr (4, [.ref q_1, .ref q_2, .null, .null, .null, .null, .null, .null, .null, .int 0, .int 0])), (q_1, .inl (cZ, 40, .inl (fun _ => 0))), (q_2, .inl (cZ, 40, .inl (fun _ => 0)))] H := hP
  have hD := asD hP hD
  refine lv_aload_n hx hb dX4_init_20 rfl (lv_at hl 0 rfl) ?_
  refine lv_bipush (v := 40) hx hb dX4_init_21 (by decide) ?_
  refine newI (atype := .int) (ty := .int) (N' := 40) hx hb lk6 rfl 0 rfl ra_int hK hP hD hS hA (nz_int 40) (by decide) (by decide) (by decide) (Nat.le_of_ble_eq_true rfl) (Nat.le_of_ble_eq_true rfl) dX4_init_23 (fun q_3 H hP hD hS => ?_)
  have hP : va_P D vwCl [(h, .inr (4, [.ref q_1, .ref q_2, .null, .null, .null, .null, .null, .null, .null, .int 0, .int 0])), (q_1, .inl (cZ, 40, .inl (fun _ => 0))), (q_2, .inl (cZ, 40, .inl (fun _ => 0))), (q_3, .inl (cI, 40, .inl (fun _ => 0)))] H := hP
  have hD := asD hP hD
  refine W.widen (k := 3) (n := 120) (by omega) (by omega) ?_
  refine va_putF (D := D) (ci := 4) (v := .ref q_3) (ty := .array .int) (C := RX4) (T := TX4) (N := 11) hx hb hts in_i_X4_X4 tyX4 tyX4_ok nmX4 hown hK.1 hP hD hS 0 rfl rfl 2 (by decide) lk7 (fun _ h9 => h9) rfl hin rfl (by decide +kernel) rfl rfl (Nat.le_of_ble_eq_true rfl) dX4_init_25 (fun H locs hP hD hS => ?_)
  have hP : va_P D vwCl [(h, .inr (4, [.ref q_1, .ref q_2, .ref q_3, .null, .null, .null, .null, .null, .null, .int 0, .int 0])), (q_1, .inl (cZ, 40, .inl (fun _ => 0))), (q_2, .inl (cZ, 40, .inl (fun _ => 0))), (q_3, .inl (cI, 40, .inl (fun _ => 0)))] H := hP
  have hD := asD hP hD
  refine lv_aload_n hx hb dX4_init_28 rfl (lv_at hl 0 rfl) ?_
  refine lv_bipush (v := 40) hx hb dX4_init_29 (by decide) ?_
  refine newI (atype := .int) (ty := .int) (N' := 40) hx hb lk6 rfl 0 rfl ra_int hK hP hD hS hA (nz_int 40) (by decide) (by decide) (by decide) (Nat.le_of_ble_eq_true rfl) (Nat.le_of_ble_eq_true rfl) dX4_init_31 (fun q_4 H hP hD hS => ?_)
  have hP : va_P D vwCl [(h, .inr (4, [.ref q_1, .ref q_2, .ref q_3, .null, .null, .null, .null, .null, .null, .int 0, .int 0])), (q_1, .inl (cZ, 40, .inl (fun _ => 0))), (q_2, .inl (cZ, 40, .inl (fun _ => 0))), (q_3, .inl (cI, 40, .inl (fun _ => 0))), (q_4, .inl (cI, 40, .inl (fun _ => 0)))] H := hP
  have hD := asD hP hD
  refine W.widen (k := 4) (n := 160) (by omega) (by omega) ?_
  refine va_putF (D := D) (ci := 4) (v := .ref q_4) (ty := .array .int) (C := RX4) (T := TX4) (N := 11) hx hb hts in_i_X4_X4 tyX4 tyX4_ok nmX4 hown hK.1 hP hD hS 0 rfl rfl 3 (by decide) lk8 (fun _ h9 => h9) rfl hin rfl (by decide +kernel) rfl rfl (Nat.le_of_ble_eq_true rfl) dX4_init_33 (fun H locs hP hD hS => ?_)
  have hP : va_P D vwCl [(h, .inr (4, [.ref q_1, .ref q_2, .ref q_3, .ref q_4, .null, .null, .null, .null, .null, .int 0, .int 0])), (q_1, .inl (cZ, 40, .inl (fun _ => 0))), (q_2, .inl (cZ, 40, .inl (fun _ => 0))), (q_3, .inl (cI, 40, .inl (fun _ => 0))), (q_4, .inl (cI, 40, .inl (fun _ => 0)))] H := hP
  have hD := asD hP hD
  refine lv_aload_n hx hb dX4_init_36 rfl (lv_at hl 0 rfl) ?_
  refine lv_bipush (v := 40) hx hb dX4_init_37 (by decide) ?_
  refine newI (atype := .int) (ty := .int) (N' := 40) hx hb lk6 rfl 0 rfl ra_int hK hP hD hS hA (nz_int 40) (by decide) (by decide) (by decide) (Nat.le_of_ble_eq_true rfl) (Nat.le_of_ble_eq_true rfl) dX4_init_39 (fun q_5 H hP hD hS => ?_)
  have hP : va_P D vwCl [(h, .inr (4, [.ref q_1, .ref q_2, .ref q_3, .ref q_4, .null, .null, .null, .null, .null, .int 0, .int 0])), (q_1, .inl (cZ, 40, .inl (fun _ => 0))), (q_2, .inl (cZ, 40, .inl (fun _ => 0))), (q_3, .inl (cI, 40, .inl (fun _ => 0))), (q_4, .inl (cI, 40, .inl (fun _ => 0))), (q_5, .inl (cI, 40, .inl (fun _ => 0)))] H := hP
  have hD := asD hP hD
  refine W.widen (k := 5) (n := 200) (by omega) (by omega) ?_
  refine va_putF (D := D) (ci := 4) (v := .ref q_5) (ty := .array .int) (C := RX4) (T := TX4) (N := 11) hx hb hts in_i_X4_X4 tyX4 tyX4_ok nmX4 hown hK.1 hP hD hS 0 rfl rfl 4 (by decide) lk9 (fun _ h9 => h9) rfl hin rfl (by decide +kernel) rfl rfl (Nat.le_of_ble_eq_true rfl) dX4_init_41 (fun H locs hP hD hS => ?_)
  have hP : va_P D vwCl [(h, .inr (4, [.ref q_1, .ref q_2, .ref q_3, .ref q_4, .ref q_5, .null, .null, .null, .null, .int 0, .int 0])), (q_1, .inl (cZ, 40, .inl (fun _ => 0))), (q_2, .inl (cZ, 40, .inl (fun _ => 0))), (q_3, .inl (cI, 40, .inl (fun _ => 0))), (q_4, .inl (cI, 40, .inl (fun _ => 0))), (q_5, .inl (cI, 40, .inl (fun _ => 0)))] H := hP
  have hD := asD hP hD
  refine lv_aload_n hx hb dX4_init_44 rfl (lv_at hl 0 rfl) ?_
  refine lv_bipush (v := 40) hx hb dX4_init_45 (by decide) ?_
  refine newI (atype := .int) (ty := .int) (N' := 40) hx hb lk6 rfl 0 rfl ra_int hK hP hD hS hA (nz_int 40) (by decide) (by decide) (by decide) (Nat.le_of_ble_eq_true rfl) (Nat.le_of_ble_eq_true rfl) dX4_init_47 (fun q_6 H hP hD hS => ?_)
  have hP : va_P D vwCl [(h, .inr (4, [.ref q_1, .ref q_2, .ref q_3, .ref q_4, .ref q_5, .null, .null, .null, .null, .int 0, .int 0])), (q_1, .inl (cZ, 40, .inl (fun _ => 0))), (q_2, .inl (cZ, 40, .inl (fun _ => 0))), (q_3, .inl (cI, 40, .inl (fun _ => 0))), (q_4, .inl (cI, 40, .inl (fun _ => 0))), (q_5, .inl (cI, 40, .inl (fun _ => 0))), (q_6, .inl (cI, 40, .inl (fun _ => 0)))] H := hP
  have hD := asD hP hD
  refine W.widen (k := 6) (n := 240) (by omega) (by omega) ?_
  refine va_putF (D := D) (ci := 4) (v := .ref q_6) (ty := .array .int) (C := RX4) (T := TX4) (N := 11) hx hb hts in_i_X4_X4 tyX4 tyX4_ok nmX4 hown hK.1 hP hD hS 0 rfl rfl 5 (by decide) lk10 (fun _ h9 => h9) rfl hin rfl (by decide +kernel) rfl rfl (Nat.le_of_ble_eq_true rfl) dX4_init_49 (fun H locs hP hD hS => ?_)
  have hP : va_P D vwCl [(h, .inr (4, [.ref q_1, .ref q_2, .ref q_3, .ref q_4, .ref q_5, .ref q_6, .null, .null, .null, .int 0, .int 0])), (q_1, .inl (cZ, 40, .inl (fun _ => 0))), (q_2, .inl (cZ, 40, .inl (fun _ => 0))), (q_3, .inl (cI, 40, .inl (fun _ => 0))), (q_4, .inl (cI, 40, .inl (fun _ => 0))), (q_5, .inl (cI, 40, .inl (fun _ => 0))), (q_6, .inl (cI, 40, .inl (fun _ => 0)))] H := hP
  have hD := asD hP hD
  refine lv_aload_n hx hb dX4_init_52 rfl (lv_at hl 0 rfl) ?_
  refine lv_bipush (v := 40) hx hb dX4_init_53 (by decide) ?_
  refine newI (atype := .int) (ty := .int) (N' := 40) hx hb lk6 rfl 0 rfl ra_int hK hP hD hS hA (nz_int 40) (by decide) (by decide) (by decide) (Nat.le_of_ble_eq_true rfl) (Nat.le_of_ble_eq_true rfl) dX4_init_55 (fun q_7 H hP hD hS => ?_)
  have hP : va_P D vwCl [(h, .inr (4, [.ref q_1, .ref q_2, .ref q_3, .ref q_4, .ref q_5, .ref q_6, .null, .null, .null, .int 0, .int 0])), (q_1, .inl (cZ, 40, .inl (fun _ => 0))), (q_2, .inl (cZ, 40, .inl (fun _ => 0))), (q_3, .inl (cI, 40, .inl (fun _ => 0))), (q_4, .inl (cI, 40, .inl (fun _ => 0))), (q_5, .inl (cI, 40, .inl (fun _ => 0))), (q_6, .inl (cI, 40, .inl (fun _ => 0))), (q_7, .inl (cI, 40, .inl (fun _ => 0)))] H := hP
  have hD := asD hP hD
  refine W.widen (k := 7) (n := 280) (by omega) (by omega) ?_
  refine va_putF (D := D) (ci := 4) (v := .ref q_7) (ty := .array .int) (C := RX4) (T := TX4) (N := 11) hx hb hts in_i_X4_X4 tyX4 tyX4_ok nmX4 hown hK.1 hP hD hS 0 rfl rfl 6 (by decide) lk11 (fun _ h9 => h9) rfl hin rfl (by decide +kernel) rfl rfl (Nat.le_of_ble_eq_true rfl) dX4_init_57 (fun H locs hP hD hS => ?_)
  have hP : va_P D vwCl [(h, .inr (4, [.ref q_1, .ref q_2, .ref q_3, .ref q_4, .ref q_5, .ref q_6, .ref q_7, .null, .null, .int 0, .int 0])), (q_1, .inl (cZ, 40, .inl (fun _ => 0))), (q_2, .inl (cZ, 40, .inl (fun _ => 0))), (q_3, .inl (cI, 40, .inl (fun _ => 0))), (q_4, .inl (cI, 40, .inl (fun _ => 0))), (q_5, .inl (cI, 40, .inl (fun _ => 0))), (q_6, .inl (cI, 40, .inl (fun _ => 0))), (q_7, .inl (cI, 40, .inl (fun _ => 0)))] H := hP
  have hD := asD hP hD
  refine lv_aload_n hx hb dX4_init_60 rfl (lv_at hl 0 rfl) ?_
  refine lv_bipush (v := 40) hx hb dX4_init_61 (by decide) ?_
  refine newI (atype := .int) (ty := .int) (N' := 40) hx hb lk6 rfl 0 rfl ra_int hK hP hD hS hA (nz_int 40) (by decide) (by decide) (by decide) (Nat.le_of_ble_eq_true rfl) (Nat.le_of_ble_eq_true rfl) dX4_init_63 (fun q_8 H hP hD hS => ?_)
  have hP : va_P D vwCl [(h, .inr (4, [.ref q_1, .ref q_2, .ref q_3, .ref q_4, .ref q_5, .ref q_6, .ref q_7, .null, .null, .int 0, .int 0])), (q_1, .inl (cZ, 40, .inl (fun _ => 0))), (q_2, .inl (cZ, 40, .inl (fun _ => 0))), (q_3, .inl (cI, 40, .inl (fun _ => 0))), (q_4, .inl (cI, 40, .inl (fun _ => 0))), (q_5, .inl (cI, 40, .inl (fun _ => 0))), (q_6, .inl (cI, 40, .inl (fun _ => 0))), (q_7, .inl (cI, 40, .inl (fun _ => 0))), (q_8, .inl (cI, 40, .inl (fun _ => 0)))] H := hP
  have hD := asD hP hD
  refine W.widen (k := 8) (n := 320) (by omega) (by omega) ?_
  refine va_putF (D := D) (ci := 4) (v := .ref q_8) (ty := .array .int) (C := RX4) (T := TX4) (N := 11) hx hb hts in_i_X4_X4 tyX4 tyX4_ok nmX4 hown hK.1 hP hD hS 0 rfl rfl 7 (by decide) lk12 (fun _ h9 => h9) rfl hin rfl (by decide +kernel) rfl rfl (Nat.le_of_ble_eq_true rfl) dX4_init_65 (fun H locs hP hD hS => ?_)
  have hP : va_P D vwCl [(h, .inr (4, [.ref q_1, .ref q_2, .ref q_3, .ref q_4, .ref q_5, .ref q_6, .ref q_7, .ref q_8, .null, .int 0, .int 0])), (q_1, .inl (cZ, 40, .inl (fun _ => 0))), (q_2, .inl (cZ, 40, .inl (fun _ => 0))), (q_3, .inl (cI, 40, .inl (fun _ => 0))), (q_4, .inl (cI, 40, .inl (fun _ => 0))), (q_5, .inl (cI, 40, .inl (fun _ => 0))), (q_6, .inl (cI, 40, .inl (fun _ => 0))), (q_7, .inl (cI, 40, .inl (fun _ => 0))), (q_8, .inl (cI, 40, .inl (fun _ => 0)))] H := hP
  have hD := asD hP hD
  refine lv_aload_n hx hb dX4_init_68 rfl (lv_at hl 0 rfl) ?_
  refine lv_bipush (v := 40) hx hb dX4_init_69 (by decide) ?_
  refine newI (atype := .int) (ty := .int) (N' := 40) hx hb lk6 rfl 0 rfl ra_int hK hP hD hS hA (nz_int 40) (by decide) (by decide) (by decide) (Nat.le_of_ble_eq_true rfl) (Nat.le_of_ble_eq_true rfl) dX4_init_71 (fun q_9 H hP hD hS => ?_)
  have hP : va_P D vwCl [(h, .inr (4, [.ref q_1, .ref q_2, .ref q_3, .ref q_4, .ref q_5, .ref q_6, .ref q_7, .ref q_8, .null, .int 0, .int 0])), (q_1, .inl (cZ, 40, .inl (fun _ => 0))), (q_2, .inl (cZ, 40, .inl (fun _ => 0))), (q_3, .inl (cI, 40, .inl (fun _ => 0))), (q_4, .inl (cI, 40, .inl (fun _ => 0))), (q_5, .inl (cI, 40, .inl (fun _ => 0))), (q_6, .inl (cI, 40, .inl (fun _ => 0))), (q_7, .inl (cI, 40, .inl (fun _ => 0))), (q_8, .inl (cI, 40, .inl (fun _ => 0))), (q_9, .inl (cI, 40, .inl (fun _ => 0)))] H := hP
  have hD := asD hP hD
  refine W.widen (k := 9) (n := 360) (by omega) (by omega) ?_
  refine va_putF (D := D) (ci := 4) (v := .ref q_9) (ty := .array .int) (C := RX4) (T := TX4) (N := 11) hx hb hts in_i_X4_X4 tyX4 tyX4_ok nmX4 hown hK.1 hP hD hS 0 rfl rfl 8 (by decide) lk13 (fun _ h9 => h9) rfl hin rfl (by decide +kernel) rfl rfl (Nat.le_of_ble_eq_true rfl) dX4_init_73 (fun H locs hP hD hS => ?_)
  have hP : va_P D vwCl [(h, .inr (4, [.ref q_1, .ref q_2, .ref q_3, .ref q_4, .ref q_5, .ref q_6, .ref q_7, .ref q_8, .ref q_9, .int 0, .int 0])), (q_1, .inl (cZ, 40, .inl (fun _ => 0))), (q_2, .inl (cZ, 40, .inl (fun _ => 0))), (q_3, .inl (cI, 40, .inl (fun _ => 0))), (q_4, .inl (cI, 40, .inl (fun _ => 0))), (q_5, .inl (cI, 40, .inl (fun _ => 0))), (q_6, .inl (cI, 40, .inl (fun _ => 0))), (q_7, .inl (cI, 40, .inl (fun _ => 0))), (q_8, .inl (cI, 40, .inl (fun _ => 0))), (q_9, .inl (cI, 40, .inl (fun _ => 0)))] H := hP
  have hD := asD hP hD
  refine W.widen (k := 9) (n := 360) (by omega) (by omega) ?_
  exact hret (q_1, q_2, q_3, q_4, q_5, q_6, q_7, q_8, q_9) _ _ _ _ (show True from trivial) (hP.sub [0, 1, 2, 3, 4, 5, 6, 7, 8, 9] rfl) (hD.sub [0, 1, 2, 3, 4, 5, 6, 7, 8, 9] (by decide +kernel) rfl) hS dX4_init_76

theorem in_i_X5_X5 : ∀ w ∈ wsX50, w ∈ wsX5_init := tl_X5_init_X5
set_option maxHeartbeats 8000000 in
set_option maxRecDepth 100000 in
theorem i_X5 {l : Launch} {D : va_G} {cI cZ cB : ClassId} {sz : Nat} {h : Nat}  : Met l yX5_init wsX5_init ({ frames := 1, cells := 6, slots := 252, locals := 12 }) (RW D cI cZ cB [.ref h] sz [(h, .inr (5, [.null, .null, .null, .null, .null, .null, .int 0, .int 0]))]) (va_Qv (fun u : Nat × Nat × Nat × Nat × Nat × Nat => True) (BW D [(h, .inr (5, [.null, .null, .null, .null, .null, .null, .int 0, .int 0]))] sz (fun u : Nat × Nat × Nat × Nat × Nat × Nat => [(h, .inr (5, [.ref u.1, .ref u.2.1, .ref u.2.2.1, .ref u.2.2.2.1, .ref u.2.2.2.2.1, .ref u.2.2.2.2.2, .int 0, .int 0])), (u.1, .inl (cZ, 24, .inl (fun _ => 0))), (u.2.1, .inl (cI, 24, .inl (fun _ => 0))), (u.2.2.1, .inl (cI, 24, .inl (fun _ => 0))), (u.2.2.2.1, .inl (cI, 60, .inl (fun _ => 0))), (u.2.2.2.2.1, .inl (cI, 60, .inl (fun _ => 0))), (u.2.2.2.2.2, .inl (cI, 60, .inl (fun _ => 0)))])) (va_A [(h, .inr (5, [.null, .null, .null, .null, .null, .null, .int 0, .int 0]))] sz)) 6 252 (va_A [(h, .inr (5, [.null, .null, .null, .null, .null, .null, .int 0, .int 0]))] sz) := by
  refine rw_retv (cc := cX5_init) (maxL := 1) (own := RX5) (by decide) rfl rfl (Nat.le_of_ble_eq_true rfl) ?_
  intro p e s m args below meth c Q A S hin hret hP hK hD hA hS ls hl
  obtain ⟨hx, hb, hml, hown, hts⟩ := id S
  have hl : lv_has ls 1 [(0, .ref h)] := hl
  have kk0 : (0 : Int32).toInt = 0 := by decide
  have kk24 : (24 : Int32).toInt = 24 := by decide
  have kk60 : (60 : Int32).toInt = 60 := by decide
  have lk0 := hts (.methodLink RX5 3 objectInit) (List.mem_cons_of_mem _ (List.mem_append_left _ (List.mem_of_getElem? (i := 0) rfl)))
  have lk1 := hts (.instanceMethod objectInit) (List.mem_cons_of_mem _ (List.mem_append_left _ (List.mem_of_getElem? (i := 1) rfl)))
  have lk2 := hts (.code objectInit ⟨#[0xb1]⟩ 1 none) (List.mem_cons_of_mem _ (List.mem_append_left _ (List.mem_of_getElem? (i := 2) rfl)))
  have lk3 := hts (.arrayClass .boolean) (List.mem_cons_of_mem _ (List.mem_append_left _ (List.mem_of_getElem? (i := 3) rfl)))
  have lk4 := hts (.fieldLink RX5 11 "AbbeyHours$Monks" "priests" "[Z") (List.mem_cons_of_mem _ (List.mem_append_left _ (List.mem_of_getElem? (i := 4) rfl)))
  have lk5 := hts (.arrayClass .int) (List.mem_cons_of_mem _ (List.mem_append_left _ (List.mem_of_getElem? (i := 5) rfl)))
  have lk6 := hts (.fieldLink RX5 15 "AbbeyHours$Monks" "barred" "[I") (List.mem_cons_of_mem _ (List.mem_append_left _ (List.mem_of_getElem? (i := 6) rfl)))
  have lk7 := hts (.fieldLink RX5 19 "AbbeyHours$Monks" "cameOn" "[I") (List.mem_cons_of_mem _ (List.mem_append_left _ (List.mem_of_getElem? (i := 7) rfl)))
  have lk8 := hts (.fieldLink RX5 22 "AbbeyHours$Monks" "absent" "[I") (List.mem_cons_of_mem _ (List.mem_append_left _ (List.mem_of_getElem? (i := 8) rfl)))
  have lk9 := hts (.fieldLink RX5 25 "AbbeyHours$Monks" "absentFrom" "[I") (List.mem_cons_of_mem _ (List.mem_append_left _ (List.mem_of_getElem? (i := 9) rfl)))
  have lk10 := hts (.fieldLink RX5 28 "AbbeyHours$Monks" "absentTo" "[I") (List.mem_cons_of_mem _ (List.mem_append_left _ (List.mem_of_getElem? (i := 10) rfl)))
  refine lv_aload_n hx hb dX5_init_0 rfl (lv_at hl 0 rfl) ?_
  refine W.objInit hx hb hown lk0 lk1 lk2 rfl (by rw [hml]; exact hl.1) rfl dX5_init_1 (Nat.le_of_ble_eq_true rfl) (Nat.le_of_ble_eq_true rfl) ?_
  refine W.eq (g2 := F0 m 4 ls []) rfl ?_
  refine lv_aload_n hx hb dX5_init_4 rfl (lv_at hl 0 rfl) ?_
  refine lv_bipush (v := 24) hx hb dX5_init_5 (by decide) ?_
  refine newI (atype := .boolean) (ty := .boolean) (N' := 24) hx hb lk3 rfl 1 rfl ra_bool hK hP hD hS hA (nz_boolean 24) (by decide) (by decide) (by decide) (Nat.le_of_ble_eq_true rfl) (Nat.le_of_ble_eq_true rfl) dX5_init_7 (fun q_1 H hP hD hS => ?_)
  have hP : va_P D vwCl [(h, .inr (5, [.null, .null, .null, .null, .null, .null, .int 0, .int 0])), (q_1, .inl (cZ, 24, .inl (fun _ => 0)))] H := hP
  have hD := asD hP hD
  refine W.widen (k := 1) (n := 24) (by omega) (by omega) ?_
  refine va_putF (D := D) (ci := 5) (v := .ref q_1) (ty := .array .boolean) (C := RX5) (T := TX5) (N := 8) hx hb hts in_i_X5_X5 tyX5 tyX5_ok nmX5 hown hK.1 hP hD hS 0 rfl rfl 0 (by decide) lk4 (fun _ h9 => h9) rfl hin rfl (by decide +kernel) rfl rfl (Nat.le_of_ble_eq_true rfl) dX5_init_9 (fun H locs hP hD hS => ?_)
  have hP : va_P D vwCl [(h, .inr (5, [.ref q_1, .null, .null, .null, .null, .null, .int 0, .int 0])), (q_1, .inl (cZ, 24, .inl (fun _ => 0)))] H := hP
  have hD := asD hP hD
  refine lv_aload_n hx hb dX5_init_12 rfl (lv_at hl 0 rfl) ?_
  refine lv_bipush (v := 24) hx hb dX5_init_13 (by decide) ?_
  refine newI (atype := .int) (ty := .int) (N' := 24) hx hb lk5 rfl 0 rfl ra_int hK hP hD hS hA (nz_int 24) (by decide) (by decide) (by decide) (Nat.le_of_ble_eq_true rfl) (Nat.le_of_ble_eq_true rfl) dX5_init_15 (fun q_2 H hP hD hS => ?_)
  have hP : va_P D vwCl [(h, .inr (5, [.ref q_1, .null, .null, .null, .null, .null, .int 0, .int 0])), (q_1, .inl (cZ, 24, .inl (fun _ => 0))), (q_2, .inl (cI, 24, .inl (fun _ => 0)))] H := hP
  have hD := asD hP hD
  refine W.widen (k := 2) (n := 48) (by omega) (by omega) ?_
  refine va_putF (D := D) (ci := 5) (v := .ref q_2) (ty := .array .int) (C := RX5) (T := TX5) (N := 8) hx hb hts in_i_X5_X5 tyX5 tyX5_ok nmX5 hown hK.1 hP hD hS 0 rfl rfl 1 (by decide) lk6 (fun _ h9 => h9) rfl hin rfl (by decide +kernel) rfl rfl (Nat.le_of_ble_eq_true rfl) dX5_init_17 (fun H locs hP hD hS => ?_)
  have hP : va_P D vwCl [(h, .inr (5, [.ref q_1, .ref q_2, .null, .null, .null, .null, .int 0, .int 0])), (q_1, .inl (cZ, 24, .inl (fun _ => 0))), (q_2, .inl (cI, 24, .inl (fun _ => 0)))] H := hP
  have hD := asD hP hD
  refine lv_aload_n hx hb dX5_init_20 rfl (lv_at hl 0 rfl) ?_
  refine lv_bipush (v := 24) hx hb dX5_init_21 (by decide) ?_
  refine newI (atype := .int) (ty := .int) (N' := 24) hx hb lk5 rfl 0 rfl ra_int hK hP hD hS hA (nz_int 24) (by decide) (by decide) (by decide) (Nat.le_of_ble_eq_true rfl) (Nat.le_of_ble_eq_true rfl) dX5_init_23 (fun q_3 H hP hD hS => ?_)
  have hP : va_P D vwCl [(h, .inr (5, [.ref q_1, .ref q_2, .null, .null, .null, .null, .int 0, .int 0])), (q_1, .inl (cZ, 24, .inl (fun _ => 0))), (q_2, .inl (cI, 24, .inl (fun _ => 0))), (q_3, .inl (cI, 24, .inl (fun _ => 0)))] H := hP
  have hD := asD hP hD
  refine W.widen (k := 3) (n := 72) (by omega) (by omega) ?_
  refine va_putF (D := D) (ci := 5) (v := .ref q_3) (ty := .array .int) (C := RX5) (T := TX5) (N := 8) hx hb hts in_i_X5_X5 tyX5 tyX5_ok nmX5 hown hK.1 hP hD hS 0 rfl rfl 2 (by decide) lk7 (fun _ h9 => h9) rfl hin rfl (by decide +kernel) rfl rfl (Nat.le_of_ble_eq_true rfl) dX5_init_25 (fun H locs hP hD hS => ?_)
  have hP : va_P D vwCl [(h, .inr (5, [.ref q_1, .ref q_2, .ref q_3, .null, .null, .null, .int 0, .int 0])), (q_1, .inl (cZ, 24, .inl (fun _ => 0))), (q_2, .inl (cI, 24, .inl (fun _ => 0))), (q_3, .inl (cI, 24, .inl (fun _ => 0)))] H := hP
  have hD := asD hP hD
  refine lv_aload_n hx hb dX5_init_28 rfl (lv_at hl 0 rfl) ?_
  refine lv_bipush (v := 60) hx hb dX5_init_29 (by decide) ?_
  refine newI (atype := .int) (ty := .int) (N' := 60) hx hb lk5 rfl 0 rfl ra_int hK hP hD hS hA (nz_int 60) (by decide) (by decide) (by decide) (Nat.le_of_ble_eq_true rfl) (Nat.le_of_ble_eq_true rfl) dX5_init_31 (fun q_4 H hP hD hS => ?_)
  have hP : va_P D vwCl [(h, .inr (5, [.ref q_1, .ref q_2, .ref q_3, .null, .null, .null, .int 0, .int 0])), (q_1, .inl (cZ, 24, .inl (fun _ => 0))), (q_2, .inl (cI, 24, .inl (fun _ => 0))), (q_3, .inl (cI, 24, .inl (fun _ => 0))), (q_4, .inl (cI, 60, .inl (fun _ => 0)))] H := hP
  have hD := asD hP hD
  refine W.widen (k := 4) (n := 132) (by omega) (by omega) ?_
  refine va_putF (D := D) (ci := 5) (v := .ref q_4) (ty := .array .int) (C := RX5) (T := TX5) (N := 8) hx hb hts in_i_X5_X5 tyX5 tyX5_ok nmX5 hown hK.1 hP hD hS 0 rfl rfl 3 (by decide) lk8 (fun _ h9 => h9) rfl hin rfl (by decide +kernel) rfl rfl (Nat.le_of_ble_eq_true rfl) dX5_init_33 (fun H locs hP hD hS => ?_)
  have hP : va_P D vwCl [(h, .inr (5, [.ref q_1, .ref q_2, .ref q_3, .ref q_4, .null, .null, .int 0, .int 0])), (q_1, .inl (cZ, 24, .inl (fun _ => 0))), (q_2, .inl (cI, 24, .inl (fun _ => 0))), (q_3, .inl (cI, 24, .inl (fun _ => 0))), (q_4, .inl (cI, 60, .inl (fun _ => 0)))] H := hP
  have hD := asD hP hD
  refine lv_aload_n hx hb dX5_init_36 rfl (lv_at hl 0 rfl) ?_
  refine lv_bipush (v := 60) hx hb dX5_init_37 (by decide) ?_
  refine newI (atype := .int) (ty := .int) (N' := 60) hx hb lk5 rfl 0 rfl ra_int hK hP hD hS hA (nz_int 60) (by decide) (by decide) (by decide) (Nat.le_of_ble_eq_true rfl) (Nat.le_of_ble_eq_true rfl) dX5_init_39 (fun q_5 H hP hD hS => ?_)
  have hP : va_P D vwCl [(h, .inr (5, [.ref q_1, .ref q_2, .ref q_3, .ref q_4, .null, .null, .int 0, .int 0])), (q_1, .inl (cZ, 24, .inl (fun _ => 0))), (q_2, .inl (cI, 24, .inl (fun _ => 0))), (q_3, .inl (cI, 24, .inl (fun _ => 0))), (q_4, .inl (cI, 60, .inl (fun _ => 0))), (q_5, .inl (cI, 60, .inl (fun _ => 0)))] H := hP
  have hD := asD hP hD
  refine W.widen (k := 5) (n := 192) (by omega) (by omega) ?_
  refine va_putF (D := D) (ci := 5) (v := .ref q_5) (ty := .array .int) (C := RX5) (T := TX5) (N := 8) hx hb hts in_i_X5_X5 tyX5 tyX5_ok nmX5 hown hK.1 hP hD hS 0 rfl rfl 4 (by decide) lk9 (fun _ h9 => h9) rfl hin rfl (by decide +kernel) rfl rfl (Nat.le_of_ble_eq_true rfl) dX5_init_41 (fun H locs hP hD hS => ?_)
  have hP : va_P D vwCl [(h, .inr (5, [.ref q_1, .ref q_2, .ref q_3, .ref q_4, .ref q_5, .null, .int 0, .int 0])), (q_1, .inl (cZ, 24, .inl (fun _ => 0))), (q_2, .inl (cI, 24, .inl (fun _ => 0))), (q_3, .inl (cI, 24, .inl (fun _ => 0))), (q_4, .inl (cI, 60, .inl (fun _ => 0))), (q_5, .inl (cI, 60, .inl (fun _ => 0)))] H := hP
  have hD := asD hP hD
  refine lv_aload_n hx hb dX5_init_44 rfl (lv_at hl 0 rfl) ?_
  refine lv_bipush (v := 60) hx hb dX5_init_45 (by decide) ?_
  refine newI (atype := .int) (ty := .int) (N' := 60) hx hb lk5 rfl 0 rfl ra_int hK hP hD hS hA (nz_int 60) (by decide) (by decide) (by decide) (Nat.le_of_ble_eq_true rfl) (Nat.le_of_ble_eq_true rfl) dX5_init_47 (fun q_6 H hP hD hS => ?_)
  have hP : va_P D vwCl [(h, .inr (5, [.ref q_1, .ref q_2, .ref q_3, .ref q_4, .ref q_5, .null, .int 0, .int 0])), (q_1, .inl (cZ, 24, .inl (fun _ => 0))), (q_2, .inl (cI, 24, .inl (fun _ => 0))), (q_3, .inl (cI, 24, .inl (fun _ => 0))), (q_4, .inl (cI, 60, .inl (fun _ => 0))), (q_5, .inl (cI, 60, .inl (fun _ => 0))), (q_6, .inl (cI, 60, .inl (fun _ => 0)))] H := hP
  have hD := asD hP hD
  refine W.widen (k := 6) (n := 252) (by omega) (by omega) ?_
  refine va_putF (D := D) (ci := 5) (v := .ref q_6) (ty := .array .int) (C := RX5) (T := TX5) (N := 8) hx hb hts in_i_X5_X5 tyX5 tyX5_ok nmX5 hown hK.1 hP hD hS 0 rfl rfl 5 (by decide) lk10 (fun _ h9 => h9) rfl hin rfl (by decide +kernel) rfl rfl (Nat.le_of_ble_eq_true rfl) dX5_init_49 (fun H locs hP hD hS => ?_)
  have hP : va_P D vwCl [(h, .inr (5, [.ref q_1, .ref q_2, .ref q_3, .ref q_4, .ref q_5, .ref q_6, .int 0, .int 0])), (q_1, .inl (cZ, 24, .inl (fun _ => 0))), (q_2, .inl (cI, 24, .inl (fun _ => 0))), (q_3, .inl (cI, 24, .inl (fun _ => 0))), (q_4, .inl (cI, 60, .inl (fun _ => 0))), (q_5, .inl (cI, 60, .inl (fun _ => 0))), (q_6, .inl (cI, 60, .inl (fun _ => 0)))] H := hP
  have hD := asD hP hD
  refine W.widen (k := 6) (n := 252) (by omega) (by omega) ?_
  exact hret (q_1, q_2, q_3, q_4, q_5, q_6) _ _ _ _ (show True from trivial) (hP.sub [0, 1, 2, 3, 4, 5, 6] rfl) (hD.sub [0, 1, 2, 3, 4, 5, 6] (by decide +kernel) rfl) hS dX5_init_52

theorem in_i_X7_X7 : ∀ w ∈ wsX70, w ∈ wsX7_init := tl_X7_init_X7
set_option maxHeartbeats 8000000 in
set_option maxRecDepth 100000 in
theorem i_X7 {l : Launch} {D : va_G} {cI cZ cB : ClassId} {sz : Nat} {h : Nat}  : Met l yX7_init wsX7_init ({ frames := 1, cells := 5, slots := 500, locals := 12 }) (RW D cI cZ cB [.ref h] sz [(h, .inr (7, [.null, .null, .null, .null, .null, .int 0]))]) (va_Qv (fun u : Nat × Nat × Nat × Nat × Nat => True) (BW D [(h, .inr (7, [.null, .null, .null, .null, .null, .int 0]))] sz (fun u : Nat × Nat × Nat × Nat × Nat => [(h, .inr (7, [.ref u.1, .ref u.2.1, .ref u.2.2.1, .ref u.2.2.2.1, .ref u.2.2.2.2, .int 0])), (u.1, .inl (cI, 10, .inl (fun _ => 0))), (u.2.1, .inl (cI, 10, .inl (fun _ => 0))), (u.2.2.1, .inl (cI, 160, .inl (fun _ => 0))), (u.2.2.2.1, .inl (cI, 160, .inl (fun _ => 0))), (u.2.2.2.2, .inl (cI, 160, .inl (fun _ => 0)))])) (va_A [(h, .inr (7, [.null, .null, .null, .null, .null, .int 0]))] sz)) 5 500 (va_A [(h, .inr (7, [.null, .null, .null, .null, .null, .int 0]))] sz) := by
  refine rw_retv (cc := cX7_init) (maxL := 1) (own := RX7) (by decide) rfl rfl (Nat.le_of_ble_eq_true rfl) ?_
  intro p e s m args below meth c Q A S hin hret hP hK hD hA hS ls hl
  obtain ⟨hx, hb, hml, hown, hts⟩ := id S
  have hl : lv_has ls 1 [(0, .ref h)] := hl
  have kk0 : (0 : Int32).toInt = 0 := by decide
  have kk10 : (10 : Int32).toInt = 10 := by decide
  have kk160 : (160 : Int32).toInt = 160 := by decide
  have lk0 := hts (.methodLink RX7 5 objectInit) (List.mem_cons_of_mem _ (List.mem_append_left _ (List.mem_of_getElem? (i := 0) rfl)))
  have lk1 := hts (.instanceMethod objectInit) (List.mem_cons_of_mem _ (List.mem_append_left _ (List.mem_of_getElem? (i := 1) rfl)))
  have lk2 := hts (.code objectInit ⟨#[0xb1]⟩ 1 none) (List.mem_cons_of_mem _ (List.mem_append_left _ (List.mem_of_getElem? (i := 2) rfl)))
  have lk3 := hts (.arrayClass .int) (List.mem_cons_of_mem _ (List.mem_append_left _ (List.mem_of_getElem? (i := 3) rfl)))
  have lk4 := hts (.fieldLink RX7 13 "AbbeyHours$Rules" "since" "[I") (List.mem_cons_of_mem _ (List.mem_append_left _ (List.mem_of_getElem? (i := 4) rfl)))
  have lk5 := hts (.fieldLink RX7 17 "AbbeyHours$Rules" "sizes" "[I") (List.mem_cons_of_mem _ (List.mem_append_left _ (List.mem_of_getElem? (i := 5) rfl)))
  have lk6 := hts (.fieldLink RX7 20 "AbbeyHours$Rules" "kinds" "[I") (List.mem_cons_of_mem _ (List.mem_append_left _ (List.mem_of_getElem? (i := 6) rfl)))
  have lk7 := hts (.fieldLink RX7 23 "AbbeyHours$Rules" "firsts" "[I") (List.mem_cons_of_mem _ (List.mem_append_left _ (List.mem_of_getElem? (i := 7) rfl)))
  have lk8 := hts (.fieldLink RX7 26 "AbbeyHours$Rules" "seconds" "[I") (List.mem_cons_of_mem _ (List.mem_append_left _ (List.mem_of_getElem? (i := 8) rfl)))
  refine lv_aload_n hx hb dX7_init_0 rfl (lv_at hl 0 rfl) ?_
  refine W.objInit hx hb hown lk0 lk1 lk2 rfl (by rw [hml]; exact hl.1) rfl dX7_init_1 (Nat.le_of_ble_eq_true rfl) (Nat.le_of_ble_eq_true rfl) ?_
  refine W.eq (g2 := F0 m 4 ls []) rfl ?_
  refine lv_aload_n hx hb dX7_init_4 rfl (lv_at hl 0 rfl) ?_
  refine lv_bipush (v := 10) hx hb dX7_init_5 (by decide) ?_
  refine newI (atype := .int) (ty := .int) (N' := 10) hx hb lk3 rfl 0 rfl ra_int hK hP hD hS hA (nz_int 10) (by decide) (by decide) (by decide) (Nat.le_of_ble_eq_true rfl) (Nat.le_of_ble_eq_true rfl) dX7_init_7 (fun q_1 H hP hD hS => ?_)
  have hP : va_P D vwCl [(h, .inr (7, [.null, .null, .null, .null, .null, .int 0])), (q_1, .inl (cI, 10, .inl (fun _ => 0)))] H := hP
  have hD := asD hP hD
  refine W.widen (k := 1) (n := 10) (by omega) (by omega) ?_
  refine va_putF (D := D) (ci := 7) (v := .ref q_1) (ty := .array .int) (C := RX7) (T := TX7) (N := 6) hx hb hts in_i_X7_X7 tyX7 tyX7_ok nmX7 hown hK.1 hP hD hS 0 rfl rfl 0 (by decide) lk4 (fun _ h9 => h9) rfl hin rfl (by decide +kernel) rfl rfl (Nat.le_of_ble_eq_true rfl) dX7_init_9 (fun H locs hP hD hS => ?_)
  have hP : va_P D vwCl [(h, .inr (7, [.ref q_1, .null, .null, .null, .null, .int 0])), (q_1, .inl (cI, 10, .inl (fun _ => 0)))] H := hP
  have hD := asD hP hD
  refine lv_aload_n hx hb dX7_init_12 rfl (lv_at hl 0 rfl) ?_
  refine lv_bipush (v := 10) hx hb dX7_init_13 (by decide) ?_
  refine newI (atype := .int) (ty := .int) (N' := 10) hx hb lk3 rfl 0 rfl ra_int hK hP hD hS hA (nz_int 10) (by decide) (by decide) (by decide) (Nat.le_of_ble_eq_true rfl) (Nat.le_of_ble_eq_true rfl) dX7_init_15 (fun q_2 H hP hD hS => ?_)
  have hP : va_P D vwCl [(h, .inr (7, [.ref q_1, .null, .null, .null, .null, .int 0])), (q_1, .inl (cI, 10, .inl (fun _ => 0))), (q_2, .inl (cI, 10, .inl (fun _ => 0)))] H := hP
  have hD := asD hP hD
  refine W.widen (k := 2) (n := 20) (by omega) (by omega) ?_
  refine va_putF (D := D) (ci := 7) (v := .ref q_2) (ty := .array .int) (C := RX7) (T := TX7) (N := 6) hx hb hts in_i_X7_X7 tyX7 tyX7_ok nmX7 hown hK.1 hP hD hS 0 rfl rfl 1 (by decide) lk5 (fun _ h9 => h9) rfl hin rfl (by decide +kernel) rfl rfl (Nat.le_of_ble_eq_true rfl) dX7_init_17 (fun H locs hP hD hS => ?_)
  have hP : va_P D vwCl [(h, .inr (7, [.ref q_1, .ref q_2, .null, .null, .null, .int 0])), (q_1, .inl (cI, 10, .inl (fun _ => 0))), (q_2, .inl (cI, 10, .inl (fun _ => 0)))] H := hP
  have hD := asD hP hD
  refine lv_aload_n hx hb dX7_init_20 rfl (lv_at hl 0 rfl) ?_
  refine lv_sipush (v := 160) hx hb dX7_init_21 (by decide) ?_
  refine newI (atype := .int) (ty := .int) (N' := 160) hx hb lk3 rfl 0 rfl ra_int hK hP hD hS hA (nz_int 160) (by decide) (by decide) (by decide) (Nat.le_of_ble_eq_true rfl) (Nat.le_of_ble_eq_true rfl) dX7_init_24 (fun q_3 H hP hD hS => ?_)
  have hP : va_P D vwCl [(h, .inr (7, [.ref q_1, .ref q_2, .null, .null, .null, .int 0])), (q_1, .inl (cI, 10, .inl (fun _ => 0))), (q_2, .inl (cI, 10, .inl (fun _ => 0))), (q_3, .inl (cI, 160, .inl (fun _ => 0)))] H := hP
  have hD := asD hP hD
  refine W.widen (k := 3) (n := 180) (by omega) (by omega) ?_
  refine va_putF (D := D) (ci := 7) (v := .ref q_3) (ty := .array .int) (C := RX7) (T := TX7) (N := 6) hx hb hts in_i_X7_X7 tyX7 tyX7_ok nmX7 hown hK.1 hP hD hS 0 rfl rfl 2 (by decide) lk6 (fun _ h9 => h9) rfl hin rfl (by decide +kernel) rfl rfl (Nat.le_of_ble_eq_true rfl) dX7_init_26 (fun H locs hP hD hS => ?_)
  have hP : va_P D vwCl [(h, .inr (7, [.ref q_1, .ref q_2, .ref q_3, .null, .null, .int 0])), (q_1, .inl (cI, 10, .inl (fun _ => 0))), (q_2, .inl (cI, 10, .inl (fun _ => 0))), (q_3, .inl (cI, 160, .inl (fun _ => 0)))] H := hP
  have hD := asD hP hD
  refine lv_aload_n hx hb dX7_init_29 rfl (lv_at hl 0 rfl) ?_
  refine lv_sipush (v := 160) hx hb dX7_init_30 (by decide) ?_
  refine newI (atype := .int) (ty := .int) (N' := 160) hx hb lk3 rfl 0 rfl ra_int hK hP hD hS hA (nz_int 160) (by decide) (by decide) (by decide) (Nat.le_of_ble_eq_true rfl) (Nat.le_of_ble_eq_true rfl) dX7_init_33 (fun q_4 H hP hD hS => ?_)
  have hP : va_P D vwCl [(h, .inr (7, [.ref q_1, .ref q_2, .ref q_3, .null, .null, .int 0])), (q_1, .inl (cI, 10, .inl (fun _ => 0))), (q_2, .inl (cI, 10, .inl (fun _ => 0))), (q_3, .inl (cI, 160, .inl (fun _ => 0))), (q_4, .inl (cI, 160, .inl (fun _ => 0)))] H := hP
  have hD := asD hP hD
  refine W.widen (k := 4) (n := 340) (by omega) (by omega) ?_
  refine va_putF (D := D) (ci := 7) (v := .ref q_4) (ty := .array .int) (C := RX7) (T := TX7) (N := 6) hx hb hts in_i_X7_X7 tyX7 tyX7_ok nmX7 hown hK.1 hP hD hS 0 rfl rfl 3 (by decide) lk7 (fun _ h9 => h9) rfl hin rfl (by decide +kernel) rfl rfl (Nat.le_of_ble_eq_true rfl) dX7_init_35 (fun H locs hP hD hS => ?_)
  have hP : va_P D vwCl [(h, .inr (7, [.ref q_1, .ref q_2, .ref q_3, .ref q_4, .null, .int 0])), (q_1, .inl (cI, 10, .inl (fun _ => 0))), (q_2, .inl (cI, 10, .inl (fun _ => 0))), (q_3, .inl (cI, 160, .inl (fun _ => 0))), (q_4, .inl (cI, 160, .inl (fun _ => 0)))] H := hP
  have hD := asD hP hD
  refine lv_aload_n hx hb dX7_init_38 rfl (lv_at hl 0 rfl) ?_
  refine lv_sipush (v := 160) hx hb dX7_init_39 (by decide) ?_
  refine newI (atype := .int) (ty := .int) (N' := 160) hx hb lk3 rfl 0 rfl ra_int hK hP hD hS hA (nz_int 160) (by decide) (by decide) (by decide) (Nat.le_of_ble_eq_true rfl) (Nat.le_of_ble_eq_true rfl) dX7_init_42 (fun q_5 H hP hD hS => ?_)
  have hP : va_P D vwCl [(h, .inr (7, [.ref q_1, .ref q_2, .ref q_3, .ref q_4, .null, .int 0])), (q_1, .inl (cI, 10, .inl (fun _ => 0))), (q_2, .inl (cI, 10, .inl (fun _ => 0))), (q_3, .inl (cI, 160, .inl (fun _ => 0))), (q_4, .inl (cI, 160, .inl (fun _ => 0))), (q_5, .inl (cI, 160, .inl (fun _ => 0)))] H := hP
  have hD := asD hP hD
  refine W.widen (k := 5) (n := 500) (by omega) (by omega) ?_
  refine va_putF (D := D) (ci := 7) (v := .ref q_5) (ty := .array .int) (C := RX7) (T := TX7) (N := 6) hx hb hts in_i_X7_X7 tyX7 tyX7_ok nmX7 hown hK.1 hP hD hS 0 rfl rfl 4 (by decide) lk8 (fun _ h9 => h9) rfl hin rfl (by decide +kernel) rfl rfl (Nat.le_of_ble_eq_true rfl) dX7_init_44 (fun H locs hP hD hS => ?_)
  have hP : va_P D vwCl [(h, .inr (7, [.ref q_1, .ref q_2, .ref q_3, .ref q_4, .ref q_5, .int 0])), (q_1, .inl (cI, 10, .inl (fun _ => 0))), (q_2, .inl (cI, 10, .inl (fun _ => 0))), (q_3, .inl (cI, 160, .inl (fun _ => 0))), (q_4, .inl (cI, 160, .inl (fun _ => 0))), (q_5, .inl (cI, 160, .inl (fun _ => 0)))] H := hP
  have hD := asD hP hD
  refine W.widen (k := 5) (n := 500) (by omega) (by omega) ?_
  exact hret (q_1, q_2, q_3, q_4, q_5) _ _ _ _ (show True from trivial) (hP.sub [0, 1, 2, 3, 4, 5] rfl) (hD.sub [0, 1, 2, 3, 4, 5] (by decide +kernel) rfl) hS dX7_init_47

theorem in_i_X9_X9 : ∀ w ∈ wsX90, w ∈ wsX9_init := tl_X9_init_X9
set_option maxHeartbeats 8000000 in
set_option maxRecDepth 100000 in
theorem i_X9 {l : Launch} {D : va_G} {cI cZ cB : ClassId} {sz : Nat} {h : Nat}  : Met l yX9_init wsX9_init ({ frames := 1, cells := 1, slots := 600, locals := 12 }) (RW D cI cZ cB [.ref h] sz [(h, .inr (8, [.null, .int 0]))]) (va_Qv (fun u : Nat => True) (BW D [(h, .inr (8, [.null, .int 0]))] sz (fun u : Nat => [(h, .inr (8, [.ref u, .int 0])), (u, .inl (cB, 600, .inl (fun _ => 0)))])) (va_A [(h, .inr (8, [.null, .int 0]))] sz)) 1 600 (va_A [(h, .inr (8, [.null, .int 0]))] sz) := by
  refine rw_retv (cc := cX9_init) (maxL := 1) (own := RX9) (by decide) rfl rfl (Nat.le_of_ble_eq_true rfl) ?_
  intro p e s m args below meth c Q A S hin hret hP hK hD hA hS ls hl
  obtain ⟨hx, hb, hml, hown, hts⟩ := id S
  have hl : lv_has ls 1 [(0, .ref h)] := hl
  have kk0 : (0 : Int32).toInt = 0 := by decide
  have kk600 : (600 : Int32).toInt = 600 := by decide
  have lk0 := hts (.methodLink RX9 1 objectInit) (List.mem_cons_of_mem _ (List.mem_append_left _ (List.mem_of_getElem? (i := 0) rfl)))
  have lk1 := hts (.instanceMethod objectInit) (List.mem_cons_of_mem _ (List.mem_append_left _ (List.mem_of_getElem? (i := 1) rfl)))
  have lk2 := hts (.code objectInit ⟨#[0xb1]⟩ 1 none) (List.mem_cons_of_mem _ (List.mem_append_left _ (List.mem_of_getElem? (i := 2) rfl)))
  have lk3 := hts (.arrayClass .byte) (List.mem_cons_of_mem _ (List.mem_append_left _ (List.mem_of_getElem? (i := 3) rfl)))
  have lk4 := hts (.fieldLink RX9 9 "AbbeyHours$Tape" "bytes" "[B") (List.mem_cons_of_mem _ (List.mem_append_left _ (List.mem_of_getElem? (i := 4) rfl)))
  refine lv_aload_n hx hb dX9_init_0 rfl (lv_at hl 0 rfl) ?_
  refine W.objInit hx hb hown lk0 lk1 lk2 rfl (by rw [hml]; exact hl.1) rfl dX9_init_1 (Nat.le_of_ble_eq_true rfl) (Nat.le_of_ble_eq_true rfl) ?_
  refine W.eq (g2 := F0 m 4 ls []) rfl ?_
  refine lv_aload_n hx hb dX9_init_4 rfl (lv_at hl 0 rfl) ?_
  refine lv_sipush (v := 600) hx hb dX9_init_5 (by decide) ?_
  refine newI (atype := .byte) (ty := .byte) (N' := 600) hx hb lk3 rfl 2 rfl ra_byte hK hP hD hS hA (nz_byte 600) (by decide) (by decide) (by decide) (Nat.le_of_ble_eq_true rfl) (Nat.le_of_ble_eq_true rfl) dX9_init_8 (fun q_1 H hP hD hS => ?_)
  have hP : va_P D vwCl [(h, .inr (8, [.null, .int 0])), (q_1, .inl (cB, 600, .inl (fun _ => 0)))] H := hP
  have hD := asD hP hD
  refine W.widen (k := 1) (n := 600) (by omega) (by omega) ?_
  refine va_putF (D := D) (ci := 8) (v := .ref q_1) (ty := .array .byte) (C := RX9) (T := TX9) (N := 2) hx hb hts in_i_X9_X9 tyX9 tyX9_ok nmX9 hown hK.1 hP hD hS 0 rfl rfl 0 (by decide) lk4 (fun _ h9 => h9) rfl hin rfl (by decide +kernel) rfl rfl (Nat.le_of_ble_eq_true rfl) dX9_init_10 (fun H locs hP hD hS => ?_)
  have hP : va_P D vwCl [(h, .inr (8, [.ref q_1, .int 0])), (q_1, .inl (cB, 600, .inl (fun _ => 0)))] H := hP
  have hD := asD hP hD
  refine W.widen (k := 1) (n := 600) (by omega) (by omega) ?_
  exact hret q_1 _ _ _ _ (show True from trivial) (hP.sub [0, 1] rfl) (hD.sub [0, 1] (by decide +kernel) rfl) hS dX9_init_13

theorem in_i_X10_X10 : ∀ w ∈ wsX100, w ∈ wsX10_init := tl_X10_init_X10
set_option maxHeartbeats 8000000 in
set_option maxRecDepth 100000 in
theorem i_X10 {l : Launch} {D : va_G} {cI cZ cB : ClassId} {sz : Nat} {h : Nat}  : Met l yX10_init wsX10_init ({ frames := 1, cells := 3, slots := 291, locals := 12 }) (RW D cI cZ cB [.ref h] sz [(h, .inr (9, [.null, .null, .null, .int 0, .int 0]))]) (va_Qv (fun u : Nat × Nat × Nat => True) (BW D [(h, .inr (9, [.null, .null, .null, .int 0, .int 0]))] sz (fun u : Nat × Nat × Nat => [(h, .inr (9, [.ref u.1, .ref u.2.1, .ref u.2.2, .int 0, .int 0])), (u.1, .inl (cI, 97, .inl (fun _ => 0))), (u.2.1, .inl (cI, 97, .inl (fun _ => 0))), (u.2.2, .inl (cI, 97, .inl (fun _ => 0)))])) (va_A [(h, .inr (9, [.null, .null, .null, .int 0, .int 0]))] sz)) 3 291 (va_A [(h, .inr (9, [.null, .null, .null, .int 0, .int 0]))] sz) := by
  refine rw_retv (cc := cX10_init) (maxL := 1) (own := RX10) (by decide) rfl rfl (Nat.le_of_ble_eq_true rfl) ?_
  intro p e s m args below meth c Q A S hin hret hP hK hD hA hS ls hl
  obtain ⟨hx, hb, hml, hown, hts⟩ := id S
  have hl : lv_has ls 1 [(0, .ref h)] := hl
  have kk0 : (0 : Int32).toInt = 0 := by decide
  have kk97 : (97 : Int32).toInt = 97 := by decide
  have lk0 := hts (.methodLink RX10 3 objectInit) (List.mem_cons_of_mem _ (List.mem_append_left _ (List.mem_of_getElem? (i := 0) rfl)))
  have lk1 := hts (.instanceMethod objectInit) (List.mem_cons_of_mem _ (List.mem_append_left _ (List.mem_of_getElem? (i := 1) rfl)))
  have lk2 := hts (.code objectInit ⟨#[0xb1]⟩ 1 none) (List.mem_cons_of_mem _ (List.mem_append_left _ (List.mem_of_getElem? (i := 2) rfl)))
  have lk3 := hts (.arrayClass .int) (List.mem_cons_of_mem _ (List.mem_append_left _ (List.mem_of_getElem? (i := 3) rfl)))
  have lk4 := hts (.fieldLink RX10 11 "AbbeyHours$Tokens" "kinds" "[I") (List.mem_cons_of_mem _ (List.mem_append_left _ (List.mem_of_getElem? (i := 4) rfl)))
  have lk5 := hts (.fieldLink RX10 15 "AbbeyHours$Tokens" "places" "[I") (List.mem_cons_of_mem _ (List.mem_append_left _ (List.mem_of_getElem? (i := 5) rfl)))
  have lk6 := hts (.fieldLink RX10 18 "AbbeyHours$Tokens" "values" "[I") (List.mem_cons_of_mem _ (List.mem_append_left _ (List.mem_of_getElem? (i := 6) rfl)))
  refine lv_aload_n hx hb dX10_init_0 rfl (lv_at hl 0 rfl) ?_
  refine W.objInit hx hb hown lk0 lk1 lk2 rfl (by rw [hml]; exact hl.1) rfl dX10_init_1 (Nat.le_of_ble_eq_true rfl) (Nat.le_of_ble_eq_true rfl) ?_
  refine W.eq (g2 := F0 m 4 ls []) rfl ?_
  refine lv_aload_n hx hb dX10_init_4 rfl (lv_at hl 0 rfl) ?_
  refine lv_bipush (v := 97) hx hb dX10_init_5 (by decide) ?_
  refine newI (atype := .int) (ty := .int) (N' := 97) hx hb lk3 rfl 0 rfl ra_int hK hP hD hS hA (nz_int 97) (by decide) (by decide) (by decide) (Nat.le_of_ble_eq_true rfl) (Nat.le_of_ble_eq_true rfl) dX10_init_7 (fun q_1 H hP hD hS => ?_)
  have hP : va_P D vwCl [(h, .inr (9, [.null, .null, .null, .int 0, .int 0])), (q_1, .inl (cI, 97, .inl (fun _ => 0)))] H := hP
  have hD := asD hP hD
  refine W.widen (k := 1) (n := 97) (by omega) (by omega) ?_
  refine va_putF (D := D) (ci := 9) (v := .ref q_1) (ty := .array .int) (C := RX10) (T := TX10) (N := 5) hx hb hts in_i_X10_X10 tyX10 tyX10_ok nmX10 hown hK.1 hP hD hS 0 rfl rfl 0 (by decide) lk4 (fun _ h9 => h9) rfl hin rfl (by decide +kernel) rfl rfl (Nat.le_of_ble_eq_true rfl) dX10_init_9 (fun H locs hP hD hS => ?_)
  have hP : va_P D vwCl [(h, .inr (9, [.ref q_1, .null, .null, .int 0, .int 0])), (q_1, .inl (cI, 97, .inl (fun _ => 0)))] H := hP
  have hD := asD hP hD
  refine lv_aload_n hx hb dX10_init_12 rfl (lv_at hl 0 rfl) ?_
  refine lv_bipush (v := 97) hx hb dX10_init_13 (by decide) ?_
  refine newI (atype := .int) (ty := .int) (N' := 97) hx hb lk3 rfl 0 rfl ra_int hK hP hD hS hA (nz_int 97) (by decide) (by decide) (by decide) (Nat.le_of_ble_eq_true rfl) (Nat.le_of_ble_eq_true rfl) dX10_init_15 (fun q_2 H hP hD hS => ?_)
  have hP : va_P D vwCl [(h, .inr (9, [.ref q_1, .null, .null, .int 0, .int 0])), (q_1, .inl (cI, 97, .inl (fun _ => 0))), (q_2, .inl (cI, 97, .inl (fun _ => 0)))] H := hP
  have hD := asD hP hD
  refine W.widen (k := 2) (n := 194) (by omega) (by omega) ?_
  refine va_putF (D := D) (ci := 9) (v := .ref q_2) (ty := .array .int) (C := RX10) (T := TX10) (N := 5) hx hb hts in_i_X10_X10 tyX10 tyX10_ok nmX10 hown hK.1 hP hD hS 0 rfl rfl 1 (by decide) lk5 (fun _ h9 => h9) rfl hin rfl (by decide +kernel) rfl rfl (Nat.le_of_ble_eq_true rfl) dX10_init_17 (fun H locs hP hD hS => ?_)
  have hP : va_P D vwCl [(h, .inr (9, [.ref q_1, .ref q_2, .null, .int 0, .int 0])), (q_1, .inl (cI, 97, .inl (fun _ => 0))), (q_2, .inl (cI, 97, .inl (fun _ => 0)))] H := hP
  have hD := asD hP hD
  refine lv_aload_n hx hb dX10_init_20 rfl (lv_at hl 0 rfl) ?_
  refine lv_bipush (v := 97) hx hb dX10_init_21 (by decide) ?_
  refine newI (atype := .int) (ty := .int) (N' := 97) hx hb lk3 rfl 0 rfl ra_int hK hP hD hS hA (nz_int 97) (by decide) (by decide) (by decide) (Nat.le_of_ble_eq_true rfl) (Nat.le_of_ble_eq_true rfl) dX10_init_23 (fun q_3 H hP hD hS => ?_)
  have hP : va_P D vwCl [(h, .inr (9, [.ref q_1, .ref q_2, .null, .int 0, .int 0])), (q_1, .inl (cI, 97, .inl (fun _ => 0))), (q_2, .inl (cI, 97, .inl (fun _ => 0))), (q_3, .inl (cI, 97, .inl (fun _ => 0)))] H := hP
  have hD := asD hP hD
  refine W.widen (k := 3) (n := 291) (by omega) (by omega) ?_
  refine va_putF (D := D) (ci := 9) (v := .ref q_3) (ty := .array .int) (C := RX10) (T := TX10) (N := 5) hx hb hts in_i_X10_X10 tyX10 tyX10_ok nmX10 hown hK.1 hP hD hS 0 rfl rfl 2 (by decide) lk6 (fun _ h9 => h9) rfl hin rfl (by decide +kernel) rfl rfl (Nat.le_of_ble_eq_true rfl) dX10_init_25 (fun H locs hP hD hS => ?_)
  have hP : va_P D vwCl [(h, .inr (9, [.ref q_1, .ref q_2, .ref q_3, .int 0, .int 0])), (q_1, .inl (cI, 97, .inl (fun _ => 0))), (q_2, .inl (cI, 97, .inl (fun _ => 0))), (q_3, .inl (cI, 97, .inl (fun _ => 0)))] H := hP
  have hD := asD hP hD
  refine W.widen (k := 3) (n := 291) (by omega) (by omega) ?_
  exact hret (q_1, q_2, q_3) _ _ _ _ (show True from trivial) (hP.sub [0, 1, 2, 3] rfl) (hD.sub [0, 1, 2, 3] (by decide +kernel) rfl) hS dX10_init_28

theorem in_i_X1_4_X1 : ∀ w ∈ wsX10, w ∈ wsX1_init := tl_X1_init_X1
set_option maxHeartbeats 8000000 in
set_option maxRecDepth 100000 in
theorem i_X1_4 {l : Launch} {D : va_G} {cI cZ cB : ClassId} {sz : Nat} {h : Nat}  : Met l yX1_init wsX1_init ({ frames := 1, cells := 1, slots := 128, locals := 14 }) (RW D cI cZ cB [.ref h, .int 4] sz [(h, .inr (1, [.int 0, .null]))]) (va_Qv (fun u : Nat => True) (BW D [(h, .inr (1, [.int 0, .null]))] sz (fun u : Nat => [(h, .inr (1, [.int 4, .ref u])), (u, .inl (cI, 128, .inl (fun _ => 0)))])) (va_A [(h, .inr (1, [.int 0, .null]))] sz)) 1 128 (va_A [(h, .inr (1, [.int 0, .null]))] sz) := by
  refine rw_retv (cc := cX1_init) (maxL := 2) (own := RX1) (by decide) rfl rfl (Nat.le_of_ble_eq_true rfl) ?_
  intro p e s m args below meth c Q A S hin hret hP hK hD hA hS ls hl
  obtain ⟨hx, hb, hml, hown, hts⟩ := id S
  have hl : lv_has ls 2 [(0, .ref h), (1, .int 4)] := hl
  have kk0 : (0 : Int32).toInt = 0 := by decide
  have kk1 : (1 : Int32).toInt = 1 := by decide
  have kk4 : (4 : Int32).toInt = 4 := by decide
  have kk32 : (32 : Int32).toInt = 32 := by decide
  have lk0 := hts (.methodLink RX1 3 objectInit) (List.mem_cons_of_mem _ (List.mem_append_left _ (List.mem_of_getElem? (i := 0) rfl)))
  have lk1 := hts (.instanceMethod objectInit) (List.mem_cons_of_mem _ (List.mem_append_left _ (List.mem_of_getElem? (i := 1) rfl)))
  have lk2 := hts (.code objectInit ⟨#[0xb1]⟩ 1 none) (List.mem_cons_of_mem _ (List.mem_append_left _ (List.mem_of_getElem? (i := 2) rfl)))
  have lk3 := hts (.methodLink RX1 9 Lib.Math.max.name) (List.mem_cons_of_mem _ (List.mem_append_left _ (List.mem_of_getElem? (i := 3) rfl)))
  have lk4 := hts (.static Lib.Math.max.name) (List.mem_cons_of_mem _ (List.mem_append_left _ (List.mem_of_getElem? (i := 4) rfl)))
  have lk5 := hts (.initialized "java/lang/Math") (List.mem_cons_of_mem _ (List.mem_append_left _ (List.mem_of_getElem? (i := 5) rfl)))
  have lk6 := hts (.code Lib.Math.max.name Lib.Math.max.code 2 (some .int)) (List.mem_cons_of_mem _ (List.mem_append_left _ (List.mem_of_getElem? (i := 6) rfl)))
  have lk7 := hts (.fieldLink RX1 15 "AbbeyHours$DayTable" "width" "I") (List.mem_cons_of_mem _ (List.mem_append_left _ (List.mem_of_getElem? (i := 7) rfl)))
  have lk8 := hts (.arrayClass .int) (List.mem_cons_of_mem _ (List.mem_append_left _ (List.mem_of_getElem? (i := 8) rfl)))
  have lk9 := hts (.fieldLink RX1 21 "AbbeyHours$DayTable" "cells" "[I") (List.mem_cons_of_mem _ (List.mem_append_left _ (List.mem_of_getElem? (i := 9) rfl)))
  refine lv_aload_n hx hb dX1_init_0 rfl (lv_at hl 0 rfl) ?_
  refine W.objInit hx hb hown lk0 lk1 lk2 rfl (by rw [hml]; exact hl.1) rfl dX1_init_1 (Nat.le_of_ble_eq_true rfl) (Nat.le_of_ble_eq_true rfl) ?_
  refine W.eq (g2 := F0 m 4 ls []) rfl ?_
  refine lv_aload_n hx hb dX1_init_4 rfl (lv_at hl 0 rfl) ?_
  refine lv_iconst (v := 1) hx hb dX1_init_5 (by decide) ?_
  refine lv_iload_n hx hb dX1_init_6 rfl (lv_at hl 1 rfl) ?_
  refine va_mmax hx hb (hml.trans hl.1.symm) hown lk3 lk4 lk5 lk6 (Nat.le_of_ble_eq_true rfl) (Nat.le_of_ble_eq_true rfl) (Nat.le_of_ble_eq_true rfl) (Nat.le_of_ble_eq_true rfl) dX1_init_7 ?_
  refine lv_topi (fun x_1 ex_1 => ?_)
  obtain rfl : x_1 = 4 := by rw [ex_1]; decide
  refine va_putF (D := D) (ci := 1) (v := .int 4) (ty := .int) (C := RX1) (T := TX1) (N := 2) hx hb hts in_i_X1_4_X1 tyX1 tyX1_ok nmX1 hown hK.1 hP hD hS 0 rfl rfl 0 (by decide) lk7 (fun _ h9 => h9) rfl hin rfl (by decide +kernel) rfl rfl (Nat.le_of_ble_eq_true rfl) dX1_init_10 (fun H locs hP hD hS => ?_)
  have hP : va_P D vwCl [(h, .inr (1, [.int 4, .null]))] H := hP
  have hD := asD hP hD
  refine lv_aload_n hx hb dX1_init_13 rfl (lv_at hl 0 rfl) ?_
  refine lv_aload_n hx hb dX1_init_14 rfl (lv_at hl 0 rfl) ?_
  refine va_get (D := D) (ci := 1) (v := .int 4) (C := RX1) (T := TX1) (N := 2) hx hb hts in_i_X1_4_X1 hown hK.1 hP 0 rfl rfl 0 (by decide) lk7 (fun _ h9 => h9) rfl dX1_init_15 ?_
  refine lv_bipush (v := 32) hx hb dX1_init_18 (by decide) ?_
  refine lv_imul hx hb dX1_init_20 ?_
  refine lv_topi (fun x_2 ex_2 => ?_)
  obtain rfl : x_2 = 128 := by rw [ex_2]; decide
  refine newI (atype := .int) (ty := .int) (N' := 128) hx hb lk8 rfl 0 rfl ra_int hK hP hD hS hA (nz_int 128) (by decide) (by decide) (by decide) (Nat.le_of_ble_eq_true rfl) (Nat.le_of_ble_eq_true rfl) dX1_init_21 (fun q_3 H hP hD hS => ?_)
  have hP : va_P D vwCl [(h, .inr (1, [.int 4, .null])), (q_3, .inl (cI, 128, .inl (fun _ => 0)))] H := hP
  have hD := asD hP hD
  refine W.widen (k := 1) (n := 128) (by omega) (by omega) ?_
  refine va_put (D := D) (ci := 1) (v := .ref q_3) (ty := .array .int) (C := RX1) (T := TX1) (N := 2) hx hb hts in_i_X1_4_X1 tyX1 tyX1_ok nmX1 hown hK.1 hP hD hS 0 rfl rfl 1 (by decide) lk9 (fun _ h9 => h9) rfl (by decide +kernel) rfl rfl (Nat.le_of_ble_eq_true rfl) dX1_init_23 (fun H locs hP hD hS => ?_)
  have hP : va_P D vwCl [(h, .inr (1, [.int 4, .ref q_3])), (q_3, .inl (cI, 128, .inl (fun _ => 0)))] H := hP
  have hD := asD hP hD
  refine W.widen (k := 1) (n := 128) (by omega) (by omega) ?_
  exact hret q_3 _ _ _ _ (show True from trivial) (hP.sub [0, 1] rfl) (hD.sub [0, 1] (by decide +kernel) rfl) hS dX1_init_26

theorem in_i_X1_5_X1 : ∀ w ∈ wsX10, w ∈ wsX1_init := tl_X1_init_X1
set_option maxHeartbeats 8000000 in
set_option maxRecDepth 100000 in
theorem i_X1_5 {l : Launch} {D : va_G} {cI cZ cB : ClassId} {sz : Nat} {h : Nat}  : Met l yX1_init wsX1_init ({ frames := 1, cells := 1, slots := 160, locals := 14 }) (RW D cI cZ cB [.ref h, .int 5] sz [(h, .inr (1, [.int 0, .null]))]) (va_Qv (fun u : Nat => True) (BW D [(h, .inr (1, [.int 0, .null]))] sz (fun u : Nat => [(h, .inr (1, [.int 5, .ref u])), (u, .inl (cI, 160, .inl (fun _ => 0)))])) (va_A [(h, .inr (1, [.int 0, .null]))] sz)) 1 160 (va_A [(h, .inr (1, [.int 0, .null]))] sz) := by
  refine rw_retv (cc := cX1_init) (maxL := 2) (own := RX1) (by decide) rfl rfl (Nat.le_of_ble_eq_true rfl) ?_
  intro p e s m args below meth c Q A S hin hret hP hK hD hA hS ls hl
  obtain ⟨hx, hb, hml, hown, hts⟩ := id S
  have hl : lv_has ls 2 [(0, .ref h), (1, .int 5)] := hl
  have kk0 : (0 : Int32).toInt = 0 := by decide
  have kk1 : (1 : Int32).toInt = 1 := by decide
  have kk5 : (5 : Int32).toInt = 5 := by decide
  have kk32 : (32 : Int32).toInt = 32 := by decide
  have lk0 := hts (.methodLink RX1 3 objectInit) (List.mem_cons_of_mem _ (List.mem_append_left _ (List.mem_of_getElem? (i := 0) rfl)))
  have lk1 := hts (.instanceMethod objectInit) (List.mem_cons_of_mem _ (List.mem_append_left _ (List.mem_of_getElem? (i := 1) rfl)))
  have lk2 := hts (.code objectInit ⟨#[0xb1]⟩ 1 none) (List.mem_cons_of_mem _ (List.mem_append_left _ (List.mem_of_getElem? (i := 2) rfl)))
  have lk3 := hts (.methodLink RX1 9 Lib.Math.max.name) (List.mem_cons_of_mem _ (List.mem_append_left _ (List.mem_of_getElem? (i := 3) rfl)))
  have lk4 := hts (.static Lib.Math.max.name) (List.mem_cons_of_mem _ (List.mem_append_left _ (List.mem_of_getElem? (i := 4) rfl)))
  have lk5 := hts (.initialized "java/lang/Math") (List.mem_cons_of_mem _ (List.mem_append_left _ (List.mem_of_getElem? (i := 5) rfl)))
  have lk6 := hts (.code Lib.Math.max.name Lib.Math.max.code 2 (some .int)) (List.mem_cons_of_mem _ (List.mem_append_left _ (List.mem_of_getElem? (i := 6) rfl)))
  have lk7 := hts (.fieldLink RX1 15 "AbbeyHours$DayTable" "width" "I") (List.mem_cons_of_mem _ (List.mem_append_left _ (List.mem_of_getElem? (i := 7) rfl)))
  have lk8 := hts (.arrayClass .int) (List.mem_cons_of_mem _ (List.mem_append_left _ (List.mem_of_getElem? (i := 8) rfl)))
  have lk9 := hts (.fieldLink RX1 21 "AbbeyHours$DayTable" "cells" "[I") (List.mem_cons_of_mem _ (List.mem_append_left _ (List.mem_of_getElem? (i := 9) rfl)))
  refine lv_aload_n hx hb dX1_init_0 rfl (lv_at hl 0 rfl) ?_
  refine W.objInit hx hb hown lk0 lk1 lk2 rfl (by rw [hml]; exact hl.1) rfl dX1_init_1 (Nat.le_of_ble_eq_true rfl) (Nat.le_of_ble_eq_true rfl) ?_
  refine W.eq (g2 := F0 m 4 ls []) rfl ?_
  refine lv_aload_n hx hb dX1_init_4 rfl (lv_at hl 0 rfl) ?_
  refine lv_iconst (v := 1) hx hb dX1_init_5 (by decide) ?_
  refine lv_iload_n hx hb dX1_init_6 rfl (lv_at hl 1 rfl) ?_
  refine va_mmax hx hb (hml.trans hl.1.symm) hown lk3 lk4 lk5 lk6 (Nat.le_of_ble_eq_true rfl) (Nat.le_of_ble_eq_true rfl) (Nat.le_of_ble_eq_true rfl) (Nat.le_of_ble_eq_true rfl) dX1_init_7 ?_
  refine lv_topi (fun x_1 ex_1 => ?_)
  obtain rfl : x_1 = 5 := by rw [ex_1]; decide
  refine va_putF (D := D) (ci := 1) (v := .int 5) (ty := .int) (C := RX1) (T := TX1) (N := 2) hx hb hts in_i_X1_5_X1 tyX1 tyX1_ok nmX1 hown hK.1 hP hD hS 0 rfl rfl 0 (by decide) lk7 (fun _ h9 => h9) rfl hin rfl (by decide +kernel) rfl rfl (Nat.le_of_ble_eq_true rfl) dX1_init_10 (fun H locs hP hD hS => ?_)
  have hP : va_P D vwCl [(h, .inr (1, [.int 5, .null]))] H := hP
  have hD := asD hP hD
  refine lv_aload_n hx hb dX1_init_13 rfl (lv_at hl 0 rfl) ?_
  refine lv_aload_n hx hb dX1_init_14 rfl (lv_at hl 0 rfl) ?_
  refine va_get (D := D) (ci := 1) (v := .int 5) (C := RX1) (T := TX1) (N := 2) hx hb hts in_i_X1_5_X1 hown hK.1 hP 0 rfl rfl 0 (by decide) lk7 (fun _ h9 => h9) rfl dX1_init_15 ?_
  refine lv_bipush (v := 32) hx hb dX1_init_18 (by decide) ?_
  refine lv_imul hx hb dX1_init_20 ?_
  refine lv_topi (fun x_2 ex_2 => ?_)
  obtain rfl : x_2 = 160 := by rw [ex_2]; decide
  refine newI (atype := .int) (ty := .int) (N' := 160) hx hb lk8 rfl 0 rfl ra_int hK hP hD hS hA (nz_int 160) (by decide) (by decide) (by decide) (Nat.le_of_ble_eq_true rfl) (Nat.le_of_ble_eq_true rfl) dX1_init_21 (fun q_3 H hP hD hS => ?_)
  have hP : va_P D vwCl [(h, .inr (1, [.int 5, .null])), (q_3, .inl (cI, 160, .inl (fun _ => 0)))] H := hP
  have hD := asD hP hD
  refine W.widen (k := 1) (n := 160) (by omega) (by omega) ?_
  refine va_put (D := D) (ci := 1) (v := .ref q_3) (ty := .array .int) (C := RX1) (T := TX1) (N := 2) hx hb hts in_i_X1_5_X1 tyX1 tyX1_ok nmX1 hown hK.1 hP hD hS 0 rfl rfl 1 (by decide) lk9 (fun _ h9 => h9) rfl (by decide +kernel) rfl rfl (Nat.le_of_ble_eq_true rfl) dX1_init_23 (fun H locs hP hD hS => ?_)
  have hP : va_P D vwCl [(h, .inr (1, [.int 5, .ref q_3])), (q_3, .inl (cI, 160, .inl (fun _ => 0)))] H := hP
  have hD := asD hP hD
  refine W.widen (k := 1) (n := 160) (by omega) (by omega) ?_
  exact hret q_3 _ _ _ _ (show True from trivial) (hP.sub [0, 1] rfl) (hD.sub [0, 1] (by decide +kernel) rfl) hS dX1_init_26

theorem in_i_X6_X10 : ∀ w ∈ wsX100, w ∈ wsX6_init := tl_X6_init_X10
theorem in_i_X6_X6 : ∀ w ∈ wsX60, w ∈ wsX6_init := tl_X6_init_X6
set_option maxHeartbeats 8000000 in
set_option maxRecDepth 100000 in
theorem i_X6 {l : Launch} {D : va_G} {cI cZ cB : ClassId} {sz : Nat} {h : Nat}  : Met l yX6_init wsX6_init ({ frames := 2, cells := 7, slots := 344, locals := 32 }) (RW D cI cZ cB [.ref h] sz [(h, .inr (6, [.null, .null, .null, .null, .int 0, .int 0, .int 0, .int 0]))]) (va_Qv (fun u : Nat × Nat × Nat × Nat × Nat × Nat × Nat => True) (BW D [(h, .inr (6, [.null, .null, .null, .null, .int 0, .int 0, .int 0, .int 0]))] sz (fun u : Nat × Nat × Nat × Nat × Nat × Nat × Nat => [(h, .inr (6, [.ref u.1, .ref u.2.1, .ref u.2.2.1, .ref u.2.2.2.1, .int 0, .int 0, .int 0, .int 0])), (u.1, .inr (9, [.ref u.2.2.2.2.1, .ref u.2.2.2.2.2.1, .ref u.2.2.2.2.2.2, .int 0, .int 0])), (u.2.2.2.2.1, .inl (cI, 97, .inl (fun _ => 0))), (u.2.2.2.2.2.1, .inl (cI, 97, .inl (fun _ => 0))), (u.2.2.2.2.2.2, .inl (cI, 97, .inl (fun _ => 0))), (u.2.1, .inl (cI, 16, .inl (fun _ => 0))), (u.2.2.1, .inl (cI, 16, .inl (fun _ => 0))), (u.2.2.2.1, .inl (cI, 16, .inl (fun _ => 0)))])) (va_A [(h, .inr (6, [.null, .null, .null, .null, .int 0, .int 0, .int 0, .int 0]))] sz)) 7 344 (va_A [(h, .inr (6, [.null, .null, .null, .null, .int 0, .int 0, .int 0, .int 0]))] sz) := by
  refine rw_retv (cc := cX6_init) (maxL := 1) (own := RX6) (by decide) rfl rfl (Nat.le_of_ble_eq_true rfl) ?_
  intro p e s m args below meth c Q A S hin hret hP hK hD hA hS ls hl
  obtain ⟨hx, hb, hml, hown, hts⟩ := id S
  have hl : lv_has ls 1 [(0, .ref h)] := hl
  have kk0 : (0 : Int32).toInt = 0 := by decide
  have kk16 : (16 : Int32).toInt = 16 := by decide
  have lk0 := hts (.methodLink RX6 3 objectInit) (List.mem_cons_of_mem _ (List.mem_append_left _ (List.mem_append_left _ (List.mem_of_getElem? (i := 0) rfl))))
  have lk1 := hts (.instanceMethod objectInit) (List.mem_cons_of_mem _ (List.mem_append_left _ (List.mem_append_left _ (List.mem_of_getElem? (i := 1) rfl))))
  have lk2 := hts (.code objectInit ⟨#[0xb1]⟩ 1 none) (List.mem_cons_of_mem _ (List.mem_append_left _ (List.mem_append_left _ (List.mem_of_getElem? (i := 2) rfl))))
  have lk3 := hts (.classLink RX6 9 RX10) (List.mem_cons_of_mem _ (List.mem_append_left _ (List.mem_append_left _ (List.mem_of_getElem? (i := 3) rfl))))
  have lk4 := hts (.instantiable RX10 5) (List.mem_cons_of_mem _ (List.mem_append_left _ (List.mem_append_left _ (List.mem_of_getElem? (i := 4) rfl))))
  have lk5 := hts (.initialized RX10) (List.mem_cons_of_mem _ (List.mem_append_left _ (List.mem_append_left _ (List.mem_of_getElem? (i := 5) rfl))))
  have lk6 := hts (.instanceMethod yX10_init) (List.mem_cons_of_mem _ (List.mem_append_left _ (List.mem_append_left _ (List.mem_of_getElem? (i := 11) rfl))))
  have lk7 := hts (.fieldLink RX6 12 "AbbeyHours$RuleReader" "tokens" "LAbbeyHours$Tokens;") (List.mem_cons_of_mem _ (List.mem_append_left _ (List.mem_append_left _ (List.mem_of_getElem? (i := 6) rfl))))
  have lk8 := hts (.arrayClass .int) (List.mem_cons_of_mem _ (List.mem_append_left _ (List.mem_append_left _ (List.mem_of_getElem? (i := 7) rfl))))
  have lk9 := hts (.fieldLink RX6 18 "AbbeyHours$RuleReader" "kinds" "[I") (List.mem_cons_of_mem _ (List.mem_append_left _ (List.mem_append_left _ (List.mem_of_getElem? (i := 8) rfl))))
  have lk10 := hts (.fieldLink RX6 22 "AbbeyHours$RuleReader" "firsts" "[I") (List.mem_cons_of_mem _ (List.mem_append_left _ (List.mem_append_left _ (List.mem_of_getElem? (i := 9) rfl))))
  have lk11 := hts (.fieldLink RX6 25 "AbbeyHours$RuleReader" "seconds" "[I") (List.mem_cons_of_mem _ (List.mem_append_left _ (List.mem_append_left _ (List.mem_of_getElem? (i := 10) rfl))))
  refine lv_aload_n hx hb dX6_init_0 rfl (lv_at hl 0 rfl) ?_
  refine W.objInit hx hb hown lk0 lk1 lk2 rfl (by rw [hml]; exact hl.1) rfl dX6_init_1 (Nat.le_of_ble_eq_true rfl) (Nat.le_of_ble_eq_true rfl) ?_
  refine W.eq (g2 := F0 m 4 ls []) rfl ?_
  refine lv_aload_n hx hb dX6_init_4 rfl (lv_at hl 0 rfl) ?_
  refine va_new (ci := 9) (fs := [.null, .null, .null, .int 0, .int 0]) (C := RX10) (T := TX10) (N := 5) hx hb hts in_i_X6_X10 tyX10 tyX10_ok hown lk3 lk4 lk5 hK.1 hP hD hS hA rfl (by decide) (Nat.le_of_ble_eq_true rfl) (Nat.le_of_ble_eq_true rfl) dX6_init_5 (fun q_1 H hP hD hS => ?_)
  have hP : va_P D vwCl [(h, .inr (6, [.null, .null, .null, .null, .int 0, .int 0, .int 0, .int 0])), (q_1, .inr (9, [.null, .null, .null, .int 0, .int 0]))] H := hP
  have hD := asD hP hD
  refine W.widen (k := 1) (n := 5) (by omega) (by omega) ?_
  refine lv_dup hx hb dX6_init_8 rfl ?_
  refine rwIN (As := []) (rest := [.ref q_1, .ref h]) (wc := [(q_1, .inr (9, [.null, .null, .null, .int 0, .int 0]))]) (wr := [(h, .inr (6, [.null, .null, .null, .null, .int 0, .int 0, .int 0, .int 0]))]) S (i_X10  ) (⟨va_cnB 0 hts gX6_init_X10_init_n11 rfl rfl rfl (hK.nm 11 rfl) lk5 (by decide +kernel) ⟨Nat.le_of_ble_eq_true rfl, Nat.le_of_ble_eq_true rfl⟩, rfl, lk6⟩) hK hP hD hS hA [1] [0] rfl rfl (by decide +kernel) (by decide +kernel) (by decide +kernel) rfl hl.1 rfl (Nat.le_of_ble_eq_true rfl) dX6_init_9 ⟨Nat.le_of_ble_eq_true rfl, Nat.le_of_ble_eq_true rfl⟩ (fun u_2 H locs hw_2 hP hD hS => ?_)
  obtain ⟨a_kinds_2, a_places_2, a_values_2⟩ := u_2
  have hw_2 : True := hw_2
  have hP : va_P D vwCl [(h, .inr (6, [.null, .null, .null, .null, .int 0, .int 0, .int 0, .int 0])), (q_1, .inr (9, [.ref a_kinds_2, .ref a_places_2, .ref a_values_2, .int 0, .int 0])), (a_kinds_2, .inl (cI, 97, .inl (fun _ => 0))), (a_places_2, .inl (cI, 97, .inl (fun _ => 0))), (a_values_2, .inl (cI, 97, .inl (fun _ => 0)))] H := hP
  have hD := asD hP hD
  refine W.widen (k := 4) (n := 296) (by omega) (by omega) ?_
  refine va_putF (D := D) (ci := 6) (v := .ref q_1) (ty := .object "AbbeyHours$Tokens") (C := RX6) (T := TX6) (N := 8) hx hb hts in_i_X6_X6 tyX6 tyX6_ok nmX6 hown hK.1 hP hD hS 0 rfl rfl 0 (by decide) lk7 (fun _ h9 => h9) rfl hin rfl (by decide +kernel) rfl rfl (Nat.le_of_ble_eq_true rfl) dX6_init_12 (fun H locs hP hD hS => ?_)
  have hP : va_P D vwCl [(h, .inr (6, [.ref q_1, .null, .null, .null, .int 0, .int 0, .int 0, .int 0])), (q_1, .inr (9, [.ref a_kinds_2, .ref a_places_2, .ref a_values_2, .int 0, .int 0])), (a_kinds_2, .inl (cI, 97, .inl (fun _ => 0))), (a_places_2, .inl (cI, 97, .inl (fun _ => 0))), (a_values_2, .inl (cI, 97, .inl (fun _ => 0)))] H := hP
  have hD := asD hP hD
  refine lv_aload_n hx hb dX6_init_15 rfl (lv_at hl 0 rfl) ?_
  refine lv_bipush (v := 16) hx hb dX6_init_16 (by decide) ?_
  refine newI (atype := .int) (ty := .int) (N' := 16) hx hb lk8 rfl 0 rfl ra_int hK hP hD hS hA (nz_int 16) (by decide) (by decide) (by decide) (Nat.le_of_ble_eq_true rfl) (Nat.le_of_ble_eq_true rfl) dX6_init_18 (fun q_3 H hP hD hS => ?_)
  have hP : va_P D vwCl [(h, .inr (6, [.ref q_1, .null, .null, .null, .int 0, .int 0, .int 0, .int 0])), (q_1, .inr (9, [.ref a_kinds_2, .ref a_places_2, .ref a_values_2, .int 0, .int 0])), (a_kinds_2, .inl (cI, 97, .inl (fun _ => 0))), (a_places_2, .inl (cI, 97, .inl (fun _ => 0))), (a_values_2, .inl (cI, 97, .inl (fun _ => 0))), (q_3, .inl (cI, 16, .inl (fun _ => 0)))] H := hP
  have hD := asD hP hD
  refine W.widen (k := 5) (n := 312) (by omega) (by omega) ?_
  refine va_putF (D := D) (ci := 6) (v := .ref q_3) (ty := .array .int) (C := RX6) (T := TX6) (N := 8) hx hb hts in_i_X6_X6 tyX6 tyX6_ok nmX6 hown hK.1 hP hD hS 0 rfl rfl 1 (by decide) lk9 (fun _ h9 => h9) rfl hin rfl (by decide +kernel) rfl rfl (Nat.le_of_ble_eq_true rfl) dX6_init_20 (fun H locs hP hD hS => ?_)
  have hP : va_P D vwCl [(h, .inr (6, [.ref q_1, .ref q_3, .null, .null, .int 0, .int 0, .int 0, .int 0])), (q_1, .inr (9, [.ref a_kinds_2, .ref a_places_2, .ref a_values_2, .int 0, .int 0])), (a_kinds_2, .inl (cI, 97, .inl (fun _ => 0))), (a_places_2, .inl (cI, 97, .inl (fun _ => 0))), (a_values_2, .inl (cI, 97, .inl (fun _ => 0))), (q_3, .inl (cI, 16, .inl (fun _ => 0)))] H := hP
  have hD := asD hP hD
  refine lv_aload_n hx hb dX6_init_23 rfl (lv_at hl 0 rfl) ?_
  refine lv_bipush (v := 16) hx hb dX6_init_24 (by decide) ?_
  refine newI (atype := .int) (ty := .int) (N' := 16) hx hb lk8 rfl 0 rfl ra_int hK hP hD hS hA (nz_int 16) (by decide) (by decide) (by decide) (Nat.le_of_ble_eq_true rfl) (Nat.le_of_ble_eq_true rfl) dX6_init_26 (fun q_4 H hP hD hS => ?_)
  have hP : va_P D vwCl [(h, .inr (6, [.ref q_1, .ref q_3, .null, .null, .int 0, .int 0, .int 0, .int 0])), (q_1, .inr (9, [.ref a_kinds_2, .ref a_places_2, .ref a_values_2, .int 0, .int 0])), (a_kinds_2, .inl (cI, 97, .inl (fun _ => 0))), (a_places_2, .inl (cI, 97, .inl (fun _ => 0))), (a_values_2, .inl (cI, 97, .inl (fun _ => 0))), (q_3, .inl (cI, 16, .inl (fun _ => 0))), (q_4, .inl (cI, 16, .inl (fun _ => 0)))] H := hP
  have hD := asD hP hD
  refine W.widen (k := 6) (n := 328) (by omega) (by omega) ?_
  refine va_putF (D := D) (ci := 6) (v := .ref q_4) (ty := .array .int) (C := RX6) (T := TX6) (N := 8) hx hb hts in_i_X6_X6 tyX6 tyX6_ok nmX6 hown hK.1 hP hD hS 0 rfl rfl 2 (by decide) lk10 (fun _ h9 => h9) rfl hin rfl (by decide +kernel) rfl rfl (Nat.le_of_ble_eq_true rfl) dX6_init_28 (fun H locs hP hD hS => ?_)
  have hP : va_P D vwCl [(h, .inr (6, [.ref q_1, .ref q_3, .ref q_4, .null, .int 0, .int 0, .int 0, .int 0])), (q_1, .inr (9, [.ref a_kinds_2, .ref a_places_2, .ref a_values_2, .int 0, .int 0])), (a_kinds_2, .inl (cI, 97, .inl (fun _ => 0))), (a_places_2, .inl (cI, 97, .inl (fun _ => 0))), (a_values_2, .inl (cI, 97, .inl (fun _ => 0))), (q_3, .inl (cI, 16, .inl (fun _ => 0))), (q_4, .inl (cI, 16, .inl (fun _ => 0)))] H := hP
  have hD := asD hP hD
  refine lv_aload_n hx hb dX6_init_31 rfl (lv_at hl 0 rfl) ?_
  refine lv_bipush (v := 16) hx hb dX6_init_32 (by decide) ?_
  refine newI (atype := .int) (ty := .int) (N' := 16) hx hb lk8 rfl 0 rfl ra_int hK hP hD hS hA (nz_int 16) (by decide) (by decide) (by decide) (Nat.le_of_ble_eq_true rfl) (Nat.le_of_ble_eq_true rfl) dX6_init_34 (fun q_5 H hP hD hS => ?_)
  have hP : va_P D vwCl [(h, .inr (6, [.ref q_1, .ref q_3, .ref q_4, .null, .int 0, .int 0, .int 0, .int 0])), (q_1, .inr (9, [.ref a_kinds_2, .ref a_places_2, .ref a_values_2, .int 0, .int 0])), (a_kinds_2, .inl (cI, 97, .inl (fun _ => 0))), (a_places_2, .inl (cI, 97, .inl (fun _ => 0))), (a_values_2, .inl (cI, 97, .inl (fun _ => 0))), (q_3, .inl (cI, 16, .inl (fun _ => 0))), (q_4, .inl (cI, 16, .inl (fun _ => 0))), (q_5, .inl (cI, 16, .inl (fun _ => 0)))] H := hP
  have hD := asD hP hD
  refine W.widen (k := 7) (n := 344) (by omega) (by omega) ?_
  refine va_putF (D := D) (ci := 6) (v := .ref q_5) (ty := .array .int) (C := RX6) (T := TX6) (N := 8) hx hb hts in_i_X6_X6 tyX6 tyX6_ok nmX6 hown hK.1 hP hD hS 0 rfl rfl 3 (by decide) lk11 (fun _ h9 => h9) rfl hin rfl (by decide +kernel) rfl rfl (Nat.le_of_ble_eq_true rfl) dX6_init_36 (fun H locs hP hD hS => ?_)
  have hP : va_P D vwCl [(h, .inr (6, [.ref q_1, .ref q_3, .ref q_4, .ref q_5, .int 0, .int 0, .int 0, .int 0])), (q_1, .inr (9, [.ref a_kinds_2, .ref a_places_2, .ref a_values_2, .int 0, .int 0])), (a_kinds_2, .inl (cI, 97, .inl (fun _ => 0))), (a_places_2, .inl (cI, 97, .inl (fun _ => 0))), (a_values_2, .inl (cI, 97, .inl (fun _ => 0))), (q_3, .inl (cI, 16, .inl (fun _ => 0))), (q_4, .inl (cI, 16, .inl (fun _ => 0))), (q_5, .inl (cI, 16, .inl (fun _ => 0)))] H := hP
  have hD := asD hP hD
  refine W.widen (k := 7) (n := 344) (by omega) (by omega) ?_
  exact hret (q_1, q_3, q_4, q_5, a_kinds_2, a_places_2, a_values_2) _ _ _ _ (show True from trivial) (hP.sub [0, 1, 2, 3, 4, 5, 6, 7] rfl) (hD.sub [0, 1, 2, 3, 4, 5, 6, 7] (by decide +kernel) rfl) hS dX6_init_39

theorem in_i_X2_X1 : ∀ w ∈ wsX10, w ∈ wsX2_init := tl_X2_init_X1
theorem in_i_X2_X2 : ∀ w ∈ wsX20, w ∈ wsX2_init := tl_X2_init_X2
set_option maxHeartbeats 8000000 in
set_option maxRecDepth 100000 in
theorem i_X2 {l : Launch} {D : va_G} {cI cZ cB : ClassId} {sz : Nat} {h : Nat}  : Met l yX2_init wsX2_init ({ frames := 2, cells := 3, slots := 226, locals := 35 }) (RW D cI cZ cB [.ref h] sz [(h, .inr (2, [.null, .null]))]) (va_Qv (fun u : Nat × Nat × Nat => True) (BW D [(h, .inr (2, [.null, .null]))] sz (fun u : Nat × Nat × Nat => [(h, .inr (2, [.ref u.1, .ref u.2.1])), (u.1, .inr (1, [.int 4, .ref u.2.2])), (u.2.2, .inl (cI, 128, .inl (fun _ => 0))), (u.2.1, .inl (cI, 96, .inl (fun _ => 0)))])) (va_A [(h, .inr (2, [.null, .null]))] sz)) 3 226 (va_A [(h, .inr (2, [.null, .null]))] sz) := by
  refine rw_retv (cc := cX2_init) (maxL := 1) (own := RX2) (by decide) rfl rfl (Nat.le_of_ble_eq_true rfl) ?_
  intro p e s m args below meth c Q A S hin hret hP hK hD hA hS ls hl
  obtain ⟨hx, hb, hml, hown, hts⟩ := id S
  have hl : lv_has ls 1 [(0, .ref h)] := hl
  have kk0 : (0 : Int32).toInt = 0 := by decide
  have kk4 : (4 : Int32).toInt = 4 := by decide
  have kk96 : (96 : Int32).toInt = 96 := by decide
  have lk0 := hts (.methodLink RX2 3 objectInit) (List.mem_cons_of_mem _ (List.mem_append_left _ (List.mem_append_left _ (List.mem_of_getElem? (i := 0) rfl))))
  have lk1 := hts (.instanceMethod objectInit) (List.mem_cons_of_mem _ (List.mem_append_left _ (List.mem_append_left _ (List.mem_of_getElem? (i := 1) rfl))))
  have lk2 := hts (.code objectInit ⟨#[0xb1]⟩ 1 none) (List.mem_cons_of_mem _ (List.mem_append_left _ (List.mem_append_left _ (List.mem_of_getElem? (i := 2) rfl))))
  have lk3 := hts (.classLink RX2 9 RX1) (List.mem_cons_of_mem _ (List.mem_append_left _ (List.mem_append_left _ (List.mem_of_getElem? (i := 3) rfl))))
  have lk4 := hts (.instantiable RX1 2) (List.mem_cons_of_mem _ (List.mem_append_left _ (List.mem_append_left _ (List.mem_of_getElem? (i := 4) rfl))))
  have lk5 := hts (.initialized RX1) (List.mem_cons_of_mem _ (List.mem_append_left _ (List.mem_append_left _ (List.mem_of_getElem? (i := 5) rfl))))
  have lk6 := hts (.methodLink RX2 11 yX1_init) (List.mem_cons_of_mem _ (List.mem_append_left _ (List.mem_append_left _ (List.mem_of_getElem? (i := 9) rfl))))
  have lk7 := hts (.instanceMethod yX1_init) (List.mem_cons_of_mem _ (List.mem_append_left _ (List.mem_append_left _ (List.mem_of_getElem? (i := 10) rfl))))
  have lk8 := hts (.fieldLink RX2 14 "AbbeyHours$Duties" "holders" "LAbbeyHours$DayTable;") (List.mem_cons_of_mem _ (List.mem_append_left _ (List.mem_append_left _ (List.mem_of_getElem? (i := 6) rfl))))
  have lk9 := hts (.arrayClass .int) (List.mem_cons_of_mem _ (List.mem_append_left _ (List.mem_append_left _ (List.mem_of_getElem? (i := 7) rfl))))
  have lk10 := hts (.fieldLink RX2 22 "AbbeyHours$Duties" "taken" "[I") (List.mem_cons_of_mem _ (List.mem_append_left _ (List.mem_append_left _ (List.mem_of_getElem? (i := 8) rfl))))
  refine lv_aload_n hx hb dX2_init_0 rfl (lv_at hl 0 rfl) ?_
  refine W.objInit hx hb hown lk0 lk1 lk2 rfl (by rw [hml]; exact hl.1) rfl dX2_init_1 (Nat.le_of_ble_eq_true rfl) (Nat.le_of_ble_eq_true rfl) ?_
  refine W.eq (g2 := F0 m 4 ls []) rfl ?_
  refine lv_aload_n hx hb dX2_init_4 rfl (lv_at hl 0 rfl) ?_
  refine va_new (ci := 1) (fs := [.int 0, .null]) (C := RX1) (T := TX1) (N := 2) hx hb hts in_i_X2_X1 tyX1 tyX1_ok hown lk3 lk4 lk5 hK.1 hP hD hS hA rfl (by decide) (Nat.le_of_ble_eq_true rfl) (Nat.le_of_ble_eq_true rfl) dX2_init_5 (fun q_1 H hP hD hS => ?_)
  have hP : va_P D vwCl [(h, .inr (2, [.null, .null])), (q_1, .inr (1, [.int 0, .null]))] H := hP
  have hD := asD hP hD
  refine W.widen (k := 1) (n := 2) (by omega) (by omega) ?_
  refine lv_dup hx hb dX2_init_8 rfl ?_
  refine lv_iconst (v := 4) hx hb dX2_init_9 (by decide) ?_
  refine rwI (As := [.int 4]) (rest := [.ref q_1, .ref h]) (wc := [(q_1, .inr (1, [.int 0, .null]))]) (wr := [(h, .inr (2, [.null, .null]))]) S (i_X1_4  ) (cwI 1 hts gX2_init_X1_init rfl rfl rfl lk5 lk6 lk7 rfl (by decide +kernel) ⟨Nat.le_of_ble_eq_true rfl, Nat.le_of_ble_eq_true rfl⟩) hK hP hD hS hA [1] [0] rfl rfl (by decide +kernel) (by decide +kernel) (by decide +kernel) rfl hl.1 rfl (Nat.le_of_ble_eq_true rfl) dX2_init_10 ⟨Nat.le_of_ble_eq_true rfl, Nat.le_of_ble_eq_true rfl⟩ (fun u_2 H locs hw_2 hP hD hS => ?_)
  obtain ⟨ac_2, rfl⟩ : ∃ z, z = u_2 := ⟨_, rfl⟩
  have hw_2 : True := hw_2
  have hP : va_P D vwCl [(h, .inr (2, [.null, .null])), (q_1, .inr (1, [.int 4, .ref ac_2])), (ac_2, .inl (cI, 128, .inl (fun _ => 0)))] H := hP
  have hD := asD hP hD
  refine W.widen (k := 2) (n := 130) (by omega) (by omega) ?_
  refine va_putF (D := D) (ci := 2) (v := .ref q_1) (ty := .object "AbbeyHours$DayTable") (C := RX2) (T := TX2) (N := 2) hx hb hts in_i_X2_X2 tyX2 tyX2_ok nmX2 hown hK.1 hP hD hS 0 rfl rfl 0 (by decide) lk8 (fun _ h9 => h9) rfl hin rfl (by decide +kernel) rfl rfl (Nat.le_of_ble_eq_true rfl) dX2_init_13 (fun H locs hP hD hS => ?_)
  have hP : va_P D vwCl [(h, .inr (2, [.ref q_1, .null])), (q_1, .inr (1, [.int 4, .ref ac_2])), (ac_2, .inl (cI, 128, .inl (fun _ => 0)))] H := hP
  have hD := asD hP hD
  refine lv_aload_n hx hb dX2_init_16 rfl (lv_at hl 0 rfl) ?_
  refine lv_bipush (v := 96) hx hb dX2_init_17 (by decide) ?_
  refine newI (atype := .int) (ty := .int) (N' := 96) hx hb lk9 rfl 0 rfl ra_int hK hP hD hS hA (nz_int 96) (by decide) (by decide) (by decide) (Nat.le_of_ble_eq_true rfl) (Nat.le_of_ble_eq_true rfl) dX2_init_19 (fun q_3 H hP hD hS => ?_)
  have hP : va_P D vwCl [(h, .inr (2, [.ref q_1, .null])), (q_1, .inr (1, [.int 4, .ref ac_2])), (ac_2, .inl (cI, 128, .inl (fun _ => 0))), (q_3, .inl (cI, 96, .inl (fun _ => 0)))] H := hP
  have hD := asD hP hD
  refine W.widen (k := 3) (n := 226) (by omega) (by omega) ?_
  refine va_putF (D := D) (ci := 2) (v := .ref q_3) (ty := .array .int) (C := RX2) (T := TX2) (N := 2) hx hb hts in_i_X2_X2 tyX2 tyX2_ok nmX2 hown hK.1 hP hD hS 0 rfl rfl 1 (by decide) lk10 (fun _ h9 => h9) rfl hin rfl (by decide +kernel) rfl rfl (Nat.le_of_ble_eq_true rfl) dX2_init_21 (fun H locs hP hD hS => ?_)
  have hP : va_P D vwCl [(h, .inr (2, [.ref q_1, .ref q_3])), (q_1, .inr (1, [.int 4, .ref ac_2])), (ac_2, .inl (cI, 128, .inl (fun _ => 0))), (q_3, .inl (cI, 96, .inl (fun _ => 0)))] H := hP
  have hD := asD hP hD
  refine W.widen (k := 3) (n := 226) (by omega) (by omega) ?_
  exact hret (q_1, q_3, ac_2) _ _ _ _ (show True from trivial) (hP.sub [0, 1, 2, 3] rfl) (hD.sub [0, 1, 2, 3] (by decide +kernel) rfl) hS dX2_init_24

