theorem in_f_size_X3 : ∀ w ∈ wsX30, w ∈ wsX3_size := tl_X3_size_X3
set_option maxHeartbeats 8000000 in
set_option maxRecDepth 100000 in
theorem f_size {l : Launch} {D : va_G} {cI cZ cB : ClassId} {h a_falls a_ranks a_standsOn a_heldOn a_holder a_standing : Nat} {v_size : Int32}  : Met l yX3_size wsX3_size ({ frames := 0, cells := 0, slots := 0, locals := 0 }) (RO D cI cZ cB [.ref h] [(h, .inr (3, [.ref a_falls, .ref a_ranks, .ref a_standsOn, .ref a_heldOn, .ref a_holder, .ref a_standing, .int v_size]))]) (vp_Si (fun r : Int32 => r = v_size)) 0 0 (fun _ => False) := by
  refine ro_ret (cc := cX3_size) (maxL := 1) (ty := .int) (own := RX3) (by decide) rfl rfl (Nat.le_of_ble_eq_true rfl) ?_
  intro p e s m args below meth c Q S hret hP hK ls hl
  obtain ⟨hx, hb, hml, hown, hts⟩ := id S
  have hl : lv_has ls 1 [(0, .ref h)] := hl
  have kk0 : (0 : Int32).toInt = 0 := by decide
  have lk0 := hts (.fieldLink RX3 30 "AbbeyHours$Feasts" "size" "I") (List.mem_cons_of_mem _ (List.mem_append_left _ (List.mem_of_getElem? (i := 0) rfl)))
  refine lv_aload_n hx hb dX3_size_0 rfl (lv_at hl 0 rfl) ?_
  refine va_get (D := D) (ci := 3) (v := .int v_size) (C := RX3) (T := TX3) (N := 7) hx hb hts in_f_size_X3 hown hK.1 hP 0 rfl rfl 6 (by decide) lk0 (fun _ h9 => h9) rfl dX3_size_1 ?_
  exact hret v_size _ _ (show v_size = v_size from rfl) rfl dX3_size_4

