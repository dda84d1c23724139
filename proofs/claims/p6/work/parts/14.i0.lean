theorem in_i_X0_X0 : ∀ w ∈ wsX00, w ∈ wsX0_init := tl_X0_init_X0
set_option maxHeartbeats 8000000 in
set_option maxRecDepth 100000 in
theorem i_X0 {l : Launch} {D : va_G} {cI cZ cB : ClassId} {sz : Nat} {h : Nat}  : Met l yX0_init wsX0_init ({ frames := 1, cells := 3, slots := 300, locals := 12 }) (RW D cI cZ cB [.ref h] sz [(h, .inr (0, [.null, .null, .null, .int 0]))]) (va_Qv (fun u : Nat × Nat × Nat => True) (BW D [(h, .inr (0, [.null, .null, .null, .int 0]))] sz (fun u : Nat × Nat × Nat => [(h, .inr (0, [.ref u.1, .ref u.2.1, .ref u.2.2, .int 0])), (u.1, .inl (cI, 100, .inl (fun _ => 0))), (u.2.1, .inl (cI, 100, .inl (fun _ => 0))), (u.2.2, .inl (cI, 100, .inl (fun _ => 0)))])) (va_A [(h, .inr (0, [.null, .null, .null, .int 0]))] sz)) 3 300 (va_A [(h, .inr (0, [.null, .null, .null, .int 0]))] sz) := by
  refine rw_retv (cc := cX0_init) (maxL := 1) (own := RX0) (by decide) rfl rfl (Nat.le_of_ble_eq_true rfl) ?_
  intro p e s m args below meth c Q A S hin hret hP hK hD hA hS ls hl
  obtain ⟨hx, hb, hml, hown, hts⟩ := id S
  have hl : lv_has ls 1 [(0, .ref h)] := hl
  have kk0 : (0 : Int32).toInt = 0 := by decide
  have kk100 : (100 : Int32).toInt = 100 := by decide
  have lk0 := hts (.methodLink RX0 3 objectInit) (List.mem_cons_of_mem _ (List.mem_append_left _ (List.mem_of_getElem? (i := 0) rfl)))
  have lk1 := hts (.instanceMethod objectInit) (List.mem_cons_of_mem _ (List.mem_append_left _ (List.mem_of_getElem? (i := 1) rfl)))
  have lk2 := hts (.code objectInit ⟨#[0xb1]⟩ 1 none) (List.mem_cons_of_mem _ (List.mem_append_left _ (List.mem_of_getElem? (i := 2) rfl)))
  have lk3 := hts (.arrayClass .int) (List.mem_cons_of_mem _ (List.mem_append_left _ (List.mem_of_getElem? (i := 3) rfl)))
  have lk4 := hts (.fieldLink RX0 11 "AbbeyHours$Bells" "days" "[I") (List.mem_cons_of_mem _ (List.mem_append_left _ (List.mem_of_getElem? (i := 4) rfl)))
  have lk5 := hts (.fieldLink RX0 15 "AbbeyHours$Bells" "offices" "[I") (List.mem_cons_of_mem _ (List.mem_append_left _ (List.mem_of_getElem? (i := 5) rfl)))
  have lk6 := hts (.fieldLink RX0 18 "AbbeyHours$Bells" "delays" "[I") (List.mem_cons_of_mem _ (List.mem_append_left _ (List.mem_of_getElem? (i := 6) rfl)))
  refine lv_aload_n hx hb dX0_init_0 rfl (lv_at hl 0 rfl) ?_
  refine W.objInit hx hb hown lk0 lk1 lk2 rfl (by rw [hml]; exact hl.1) rfl dX0_init_1 (Nat.le_of_ble_eq_true rfl) (Nat.le_of_ble_eq_true rfl) ?_
  refine W.eq (g2 := F0 m 4 ls []) rfl ?_
  refine lv_aload_n hx hb dX0_init_4 rfl (lv_at hl 0 rfl) ?_
  refine lv_bipush (v := 100) hx hb dX0_init_5 (by decide) ?_
  refine newI (atype := .int) (ty := .int) (N' := 100) hx hb lk3 rfl 0 rfl ra_int hK hP hD hS hA (nz_int 100) (by decide) (by decide) (by decide) (Nat.le_of_ble_eq_true rfl) (Nat.le_of_ble_eq_true rfl) dX0_init_7 (fun q_1 H hP hD hS => ?_)
  have hP : va_P D vwCl [(h, .inr (0, [.null, .null, .null, .int 0])), (q_1, .inl (cI, 100, .inl (fun _ => 0)))] H := hP
  have hD := asD hP hD
  refine W.widen (k := 1) (n := 100) (by omega) (by omega) ?_
  refine va_putF (D := D) (ci := 0) (v := .ref q_1) (ty := .array .int) (C := RX0) (T := TX0) (N := 4) hx hb hts in_i_X0_X0 tyX0 tyX0_ok nmX0 hown hK.1 hP hD hS 0 rfl rfl 0 (by decide) lk4 (fun _ h9 => h9) rfl hin rfl (by decide +kernel) rfl rfl (Nat.le_of_ble_eq_true rfl) dX0_init_9 (fun H locs hP hD hS => ?_)
  have hP : va_P D vwCl [(h, .inr (0, [.ref q_1, .null, .null, .int 0])), (q_1, .inl (cI, 100, .inl (fun _ => 0)))] H := hP
  have hD := asD hP hD
  refine lv_aload_n hx hb dX0_init_12 rfl (lv_at hl 0 rfl) ?_
  refine lv_bipush (v := 100) hx hb dX0_init_13 (by decide) ?_
  refine newI (atype := .int) (ty := .int) (N' := 100) hx hb lk3 rfl 0 rfl ra_int hK hP hD hS hA (nz_int 100) (by decide) (by decide) (by decide) (Nat.le_of_ble_eq_true rfl) (Nat.le_of_ble_eq_true rfl) dX0_init_15 (fun q_2 H hP hD hS => ?_)
  have hP : va_P D vwCl [(h, .inr (0, [.ref q_1, .null, .null, .int 0])), (q_1, .inl (cI, 100, .inl (fun _ => 0))), (q_2, .inl (cI, 100, .inl (fun _ => 0)))] H := hP
  have hD := asD hP hD
  refine W.widen (k := 2) (n := 200) (by omega) (by omega) ?_
  refine va_putF (D := D) (ci := 0) (v := .ref q_2) (ty := .array .int) (C := RX0) (T := TX0) (N := 4) hx hb hts in_i_X0_X0 tyX0 tyX0_ok nmX0 hown hK.1 hP hD hS 0 rfl rfl 1 (by decide) lk5 (fun _ h9 => h9) rfl hin rfl (by decide +kernel) rfl rfl (Nat.le_of_ble_eq_true rfl) dX0_init_17 (fun H locs hP hD hS => ?_)
  have hP : va_P D vwCl [(h, .inr (0, [.ref q_1, .ref q_2, .null, .int 0])), (q_1, .inl (cI, 100, .inl (fun _ => 0))), (q_2, .inl (cI, 100, .inl (fun _ => 0)))] H := hP
  have hD := asD hP hD
  refine lv_aload_n hx hb dX0_init_20 rfl (lv_at hl 0 rfl) ?_
  refine lv_bipush (v := 100) hx hb dX0_init_21 (by decide) ?_
  refine newI (atype := .int) (ty := .int) (N' := 100) hx hb lk3 rfl 0 rfl ra_int hK hP hD hS hA (nz_int 100) (by decide) (by decide) (by decide) (Nat.le_of_ble_eq_true rfl) (Nat.le_of_ble_eq_true rfl) dX0_init_23 (fun q_3 H hP hD hS => ?_)
  have hP : va_P D vwCl [(h, .inr (0, [.ref q_1, .ref q_2, .null, .int 0])), (q_1, .inl (cI, 100, .inl (fun _ => 0))), (q_2, .inl (cI, 100, .inl (fun _ => 0))), (q_3, .inl (cI, 100, .inl (fun _ => 0)))] H := hP
  have hD := asD hP hD
  refine W.widen (k := 3) (n := 300) (by omega) (by omega) ?_
  refine va_putF (D := D) (ci := 0) (v := .ref q_3) (ty := .array .int) (C := RX0) (T := TX0) (N := 4) hx hb hts in_i_X0_X0 tyX0 tyX0_ok nmX0 hown hK.1 hP hD hS 0 rfl rfl 2 (by decide) lk6 (fun _ h9 => h9) rfl hin rfl (by decide +kernel) rfl rfl (Nat.le_of_ble_eq_true rfl) dX0_init_25 (fun H locs hP hD hS => ?_)
  have hP : va_P D vwCl [(h, .inr (0, [.ref q_1, .ref q_2, .ref q_3, .int 0])), (q_1, .inl (cI, 100, .inl (fun _ => 0))), (q_2, .inl (cI, 100, .inl (fun _ => 0))), (q_3, .inl (cI, 100, .inl (fun _ => 0)))] H := hP
  have hD := asD hP hD
  refine W.widen (k := 3) (n := 300) (by omega) (by omega) ?_
  exact hret (q_1, q_2, q_3) _ _ _ _ (show True from trivial) (hP.sub [0, 1, 2, 3] rfl) (hD.sub [0, 1, 2, 3] (by decide +kernel) rfl) hS dX0_init_28

