set_option maxHeartbeats 8000000 in
set_option maxRecDepth 100000 in
theorem law_case8 {p : Program} {e : Env} {s : State} {m : MethodId} {below : List Frame} {meth : Method} {c : Code} {l : Launch} {b L : Nat} {xs : Nat → Int32} {D : va_G} {cI cZ cB : ClassId} {A : Nat → Prop} {xh xa_bells xa_feasts xa_tape xa_reader xa_rules xa_monks xa_duties xa_gifts xa_figures xta_bytes yh ya_isPriest ya_bars ya_joined ya_turns ya_awayMonk ya_awayFrom ya_awayTo ya_feastDay ya_rank ya_isWeekly ya_isDouble ya_giftDay ya_giftFrom ya_owed ya_said ya_spared ya_leaveGift ya_leaveFrom ya_leaveTo ya_lateDay ya_lateOffice ya_lateBy ya_guests ya_who ya_used ya_lacks ya_candles ya_masses ya_owing ya_heldOn ya_waits ya_tape ya_text ya_statements ya_taken ya_sort ya_first ya_second : Nat} {xtf yf_tape : Nat → Int32}  (hx : p.tables.exec = Jvm.exec) (hb : c.code = cL_law) (hr : meth.sig.returnType = ret) (hml : c.maxLocals = 4) (hown : s.vm.findClass RL = some m.cls) (hts0 : ∀ w ∈ lw_tbl, w.before #[Value.ref b] s = true) (hX : va_X b L xs s s.heap) (hbl : b < s.heap.size) (hlocks : meth.locks = false) (hK : KK D cI cZ cB s) (hA : ∀ q : Nat, s.heap.size ≤ q → A q) (hAs : ∀ q : Nat, A q → s.heap.size ≤ q) (hbA : ¬ A b) (hL : L ≤ 6) (h6 : 6 ≤ L) {H : Heap} {locs : List Loc} (hP : va_P D vwCl [(xh, .inr (10, [.ref xa_bells, .ref xa_feasts, .ref xa_tape, .ref xa_reader, .ref xa_rules, .ref xa_monks, .ref xa_duties, .ref xa_gifts, .ref xa_figures, .int 0, .int 0, .int 0, .int 0, .int (-1), .int 0])), (xa_tape, .inr (8, [.ref xta_bytes, .int 0])), (xta_bytes, .inl (cB, 600, .inl xtf)), (yh, .inr (11, [.int 0, .int 0, .int 0, .int 0, .int 0, .int 0, .int 0, .int 0, .int 0, .ref ya_isPriest, .ref ya_bars, .ref ya_joined, .ref ya_turns, .ref ya_awayMonk, .ref ya_awayFrom, .ref ya_awayTo, .ref ya_feastDay, .ref ya_rank, .ref ya_isWeekly, .ref ya_isDouble, .ref ya_giftDay, .ref ya_giftFrom, .ref ya_owed, .ref ya_said, .ref ya_spared, .ref ya_leaveGift, .ref ya_leaveFrom, .ref ya_leaveTo, .ref ya_lateDay, .ref ya_lateOffice, .ref ya_lateBy, .ref ya_guests, .ref ya_who, .ref ya_used, .ref ya_lacks, .ref ya_candles, .ref ya_masses, .ref ya_owing, .ref ya_heldOn, .ref ya_waits, .ref ya_tape, .ref ya_text, .int 0, .int 0, .int 0, .int (-1), .int 0, .ref ya_statements, .ref ya_taken, .ref ya_sort, .ref ya_first, .ref ya_second, .int 0, .int 0])), (ya_tape, .inl (cB, 600, .inl yf_tape))] H) (hD : va_D A [(xh, .inr (10, [.ref xa_bells, .ref xa_feasts, .ref xa_tape, .ref xa_reader, .ref xa_rules, .ref xa_monks, .ref xa_duties, .ref xa_gifts, .ref xa_figures, .int 0, .int 0, .int 0, .int 0, .int (-1), .int 0])), (xa_tape, .inr (8, [.ref xta_bytes, .int 0])), (xta_bytes, .inl (cB, 600, .inl xtf)), (yh, .inr (11, [.int 0, .int 0, .int 0, .int 0, .int 0, .int 0, .int 0, .int 0, .int 0, .ref ya_isPriest, .ref ya_bars, .ref ya_joined, .ref ya_turns, .ref ya_awayMonk, .ref ya_awayFrom, .ref ya_awayTo, .ref ya_feastDay, .ref ya_rank, .ref ya_isWeekly, .ref ya_isDouble, .ref ya_giftDay, .ref ya_giftFrom, .ref ya_owed, .ref ya_said, .ref ya_spared, .ref ya_leaveGift, .ref ya_leaveFrom, .ref ya_leaveTo, .ref ya_lateDay, .ref ya_lateOffice, .ref ya_lateBy, .ref ya_guests, .ref ya_who, .ref ya_used, .ref ya_lacks, .ref ya_candles, .ref ya_masses, .ref ya_owing, .ref ya_heldOn, .ref ya_waits, .ref ya_tape, .ref ya_text, .int 0, .int 0, .int 0, .int (-1), .int 0, .ref ya_statements, .ref ya_taken, .ref ya_sort, .ref ya_first, .ref ya_second, .int 0, .int 0])), (ya_tape, .inl (cB, 600, .inl yf_tape))]) (hS : va_S A s.heap H locs) (ls : Array Slot) (hl : lv_has ls 4 [(3, .int 0), (2, .ref yh), (1, .ref xh), (0, .ref b)]) : W p l e room_1 s m #[Value.ref b] below meth c H locs 90 16895 (lw_Z below #[Value.ref b] s) (F0 m 420 ls []) := by
  have hts : ∀ w ∈ wsL_law, w.before #[Value.ref b] s = true := fun w h => hts0 w (wsL_law_in w h)
  have S : CallFix p m c cL_law 4 s #[Value.ref b] wsL_law RL := ⟨hx, hb, hml, hown, hts⟩
  have kk0 : (0 : Int32).toInt = 0 := by decide
  have kk1 : (1 : Int32).toInt = 1 := by decide
  have kk2 : (2 : Int32).toInt = 2 := by decide
  have kk3 : (3 : Int32).toInt = 3 := by decide
  have kk4 : (4 : Int32).toInt = 4 := by decide
  have kk5 : (5 : Int32).toInt = 5 := by decide
  have kk6 : (6 : Int32).toInt = 6 := by decide
  have kk31 : (31 : Int32).toInt = 31 := by decide
  have kkm1 : (-1 : Int32).toInt = -1 := by decide
  refine lv_aload_n hx hb dL_law_420 rfl (lv_at hl 2 rfl) ?_
  refine lv_aload_n hx hb dL_law_421 rfl (lv_at hl 3 rfl) ?_
  refine lv_iload_n hx hb dL_law_422 rfl (lv_at hl 0 rfl) ?_
  refine lv_iconst (v := 1) hx hb dL_law_423 (by decide) ?_
  refine lv_iadd hx hb dL_law_424 ?_
  refine lv_topi (fun x_1 ex_1 => ?_)
  obtain rfl : x_1 = 1 := by rw [ex_1]; decide
  refine va_sld hx hb hX hbl hbA hS (t_in (by omega) (by omega)) dL_law_425 ?_
  refine lv_aload_n hx hb dL_law_426 rfl (lv_at hl 3 rfl) ?_
  refine lv_iload_n hx hb dL_law_427 rfl (lv_at hl 0 rfl) ?_
  refine lv_iconst (v := 2) hx hb dL_law_428 (by decide) ?_
  refine lv_iadd hx hb dL_law_429 ?_
  refine lv_topi (fun x_2 ex_2 => ?_)
  obtain rfl : x_2 = 2 := by rw [ex_2]; decide
  refine va_sld hx hb hX hbl hbA hS (t_in (by omega) (by omega)) dL_law_430 ?_
  refine lv_aload_n hx hb dL_law_431 rfl (lv_at hl 3 rfl) ?_
  refine lv_iload_n hx hb dL_law_432 rfl (lv_at hl 0 rfl) ?_
  refine lv_iconst (v := 3) hx hb dL_law_433 (by decide) ?_
  refine lv_iadd hx hb dL_law_434 ?_
  refine lv_topi (fun x_3 ex_3 => ?_)
  obtain rfl : x_3 = 3 := by rw [ex_3]; decide
  refine va_sld hx hb hX hbl hbA hS (t_in (by omega) (by omega)) dL_law_435 ?_
  refine lv_aload_n hx hb dL_law_436 rfl (lv_at hl 3 rfl) ?_
  refine lv_iload_n hx hb dL_law_437 rfl (lv_at hl 0 rfl) ?_
  refine lv_iconst (v := 4) hx hb dL_law_438 (by decide) ?_
  refine lv_iadd hx hb dL_law_439 ?_
  refine lv_topi (fun x_4 ex_4 => ?_)
  obtain rfl : x_4 = 4 := by rw [ex_4]; decide
  refine va_sld hx hb hX hbl hbA hS (t_in (by omega) (by omega)) dL_law_440 ?_
  refine lv_aload_n hx hb dL_law_441 rfl (lv_at hl 3 rfl) ?_
  refine lv_iload_n hx hb dL_law_442 rfl (lv_at hl 0 rfl) ?_
  refine lv_iconst (v := 5) hx hb dL_law_443 (by decide) ?_
  refine lv_iadd hx hb dL_law_444 ?_
  refine lv_topi (fun x_5 ex_5 => ?_)
  obtain rfl : x_5 = 5 := by rw [ex_5]; decide
  refine va_sld hx hb hX hbl hbA hS (t_in (by omega) (by omega)) dL_law_445 ?_
  have hPc := hP.sub (ws' := [(xh, .inr (10, [.ref xa_bells, .ref xa_feasts, .ref xa_tape, .ref xa_reader, .ref xa_rules, .ref xa_monks, .ref xa_duties, .ref xa_gifts, .ref xa_figures, .int 0, .int 0, .int 0, .int 0, .int (-1), .int 0])), (xa_tape, .inr (8, [.ref xta_bytes, .int 0])), (xta_bytes, .inl (cB, 600, .inl xtf))]) [0, 1, 2] rfl
  refine rwV (As := [.int (xs (1 : Int32).toNatClampNeg), .int (xs (2 : Int32).toNatClampNeg), .int (xs (3 : Int32).toNatClampNeg), .int (xs (4 : Int32).toNatClampNeg), .int (xs (5 : Int32).toNatClampNeg)]) (rest := []) (wc := [(xh, .inr (10, [.ref xa_bells, .ref xa_feasts, .ref xa_tape, .ref xa_reader, .ref xa_rules, .ref xa_monks, .ref xa_duties, .ref xa_gifts, .ref xa_figures, .int 0, .int 0, .int 0, .int 0, .int (-1), .int 0])), (xa_tape, .inr (8, [.ref xta_bytes, .int 0])), (xta_bytes, .inl (cB, 600, .inl xtf))]) (wr := [(yh, .inr (11, [.int 0, .int 0, .int 0, .int 0, .int 0, .int 0, .int 0, .int 0, .int 0, .ref ya_isPriest, .ref ya_bars, .ref ya_joined, .ref ya_turns, .ref ya_awayMonk, .ref ya_awayFrom, .ref ya_awayTo, .ref ya_feastDay, .ref ya_rank, .ref ya_isWeekly, .ref ya_isDouble, .ref ya_giftDay, .ref ya_giftFrom, .ref ya_owed, .ref ya_said, .ref ya_spared, .ref ya_leaveGift, .ref ya_leaveFrom, .ref ya_leaveTo, .ref ya_lateDay, .ref ya_lateOffice, .ref ya_lateBy, .ref ya_guests, .ref ya_who, .ref ya_used, .ref ya_lacks, .ref ya_candles, .ref ya_masses, .ref ya_owing, .ref ya_heldOn, .ref ya_waits, .ref ya_tape, .ref ya_text, .int 0, .int 0, .int 0, .int (-1), .int 0, .ref ya_statements, .ref ya_taken, .ref ya_sort, .ref ya_first, .ref ya_second, .int 0, .int 0])), (ya_tape, .inl (cB, 600, .inl yf_tape))]) S (p_feed  ) (cwV 5 hts gL_law_X11_feed rfl rfl rfl (by decide +kernel) ⟨Nat.le_of_ble_eq_true rfl, Nat.le_of_ble_eq_true rfl⟩) hK hP hD hS hA [0, 1, 2] [3, 4] rfl rfl (by decide) (by decide) (by decide) (va_recv hK.1 hPc (ci := 10) (q0 := 0) rfl rfl) rfl hl.1 rfl (Nat.le_of_ble_eq_true rfl) dL_law_446 ⟨Nat.le_of_ble_eq_true rfl, Nat.le_of_ble_eq_true rfl⟩ (fun r_a u_a H locs hw_a hP hD hS => ?_)
  obtain ⟨n1_a, tf1_a⟩ := u_a
  have hw_a : r_a.toInt = 20 := hw_a
  have hP : va_P D vwCl [(yh, .inr (11, [.int 0, .int 0, .int 0, .int 0, .int 0, .int 0, .int 0, .int 0, .int 0, .ref ya_isPriest, .ref ya_bars, .ref ya_joined, .ref ya_turns, .ref ya_awayMonk, .ref ya_awayFrom, .ref ya_awayTo, .ref ya_feastDay, .ref ya_rank, .ref ya_isWeekly, .ref ya_isDouble, .ref ya_giftDay, .ref ya_giftFrom, .ref ya_owed, .ref ya_said, .ref ya_spared, .ref ya_leaveGift, .ref ya_leaveFrom, .ref ya_leaveTo, .ref ya_lateDay, .ref ya_lateOffice, .ref ya_lateBy, .ref ya_guests, .ref ya_who, .ref ya_used, .ref ya_lacks, .ref ya_candles, .ref ya_masses, .ref ya_owing, .ref ya_heldOn, .ref ya_waits, .ref ya_tape, .ref ya_text, .int 0, .int 0, .int 0, .int (-1), .int 0, .ref ya_statements, .ref ya_taken, .ref ya_sort, .ref ya_first, .ref ya_second, .int 0, .int 0])), (ya_tape, .inl (cB, 600, .inl yf_tape)), (xh, .inr (10, [.ref xa_bells, .ref xa_feasts, .ref xa_tape, .ref xa_reader, .ref xa_rules, .ref xa_monks, .ref xa_duties, .ref xa_gifts, .ref xa_figures, .int 0, .int 0, .int 0, .int 0, .int (-1), .int 0])), (xa_tape, .inr (8, [.ref xta_bytes, .int n1_a])), (xta_bytes, .inl (cB, 600, .inl tf1_a))] H := hP
  have hD : va_D A [(yh, .inr (11, [.int 0, .int 0, .int 0, .int 0, .int 0, .int 0, .int 0, .int 0, .int 0, .ref ya_isPriest, .ref ya_bars, .ref ya_joined, .ref ya_turns, .ref ya_awayMonk, .ref ya_awayFrom, .ref ya_awayTo, .ref ya_feastDay, .ref ya_rank, .ref ya_isWeekly, .ref ya_isDouble, .ref ya_giftDay, .ref ya_giftFrom, .ref ya_owed, .ref ya_said, .ref ya_spared, .ref ya_leaveGift, .ref ya_leaveFrom, .ref ya_leaveTo, .ref ya_lateDay, .ref ya_lateOffice, .ref ya_lateBy, .ref ya_guests, .ref ya_who, .ref ya_used, .ref ya_lacks, .ref ya_candles, .ref ya_masses, .ref ya_owing, .ref ya_heldOn, .ref ya_waits, .ref ya_tape, .ref ya_text, .int 0, .int 0, .int 0, .int (-1), .int 0, .ref ya_statements, .ref ya_taken, .ref ya_sort, .ref ya_first, .ref ya_second, .int 0, .int 0])), (ya_tape, .inl (cB, 600, .inl yf_tape)), (xh, .inr (10, [.ref xa_bells, .ref xa_feasts, .ref xa_tape, .ref xa_reader, .ref xa_rules, .ref xa_monks, .ref xa_duties, .ref xa_gifts, .ref xa_figures, .int 0, .int 0, .int 0, .int 0, .int (-1), .int 0])), (xa_tape, .inr (8, [.ref xta_bytes, .int n1_a])), (xta_bytes, .inl (cB, 600, .inl tf1_a))] := hD
  refine lv_aload_n hx hb dL_law_449 rfl (lv_at hl 1 rfl) ?_
  refine lv_aload_n hx hb dL_law_450 rfl (lv_at hl 3 rfl) ?_
  refine lv_iload_n hx hb dL_law_451 rfl (lv_at hl 0 rfl) ?_
  refine lv_iconst (v := 1) hx hb dL_law_452 (by decide) ?_
  refine lv_iadd hx hb dL_law_453 ?_
  refine lv_topi (fun x_6 ex_6 => ?_)
  obtain rfl : x_6 = 1 := by rw [ex_6]; decide
  refine va_sld hx hb hX hbl hbA hS (t_in (by omega) (by omega)) dL_law_454 ?_
  refine lv_aload_n hx hb dL_law_455 rfl (lv_at hl 3 rfl) ?_
  refine lv_iload_n hx hb dL_law_456 rfl (lv_at hl 0 rfl) ?_
  refine lv_iconst (v := 2) hx hb dL_law_457 (by decide) ?_
  refine lv_iadd hx hb dL_law_458 ?_
  refine lv_topi (fun x_7 ex_7 => ?_)
  obtain rfl : x_7 = 2 := by rw [ex_7]; decide
  refine va_sld hx hb hX hbl hbA hS (t_in (by omega) (by omega)) dL_law_459 ?_
  refine lv_aload_n hx hb dL_law_460 rfl (lv_at hl 3 rfl) ?_
  refine lv_iload_n hx hb dL_law_461 rfl (lv_at hl 0 rfl) ?_
  refine lv_iconst (v := 3) hx hb dL_law_462 (by decide) ?_
  refine lv_iadd hx hb dL_law_463 ?_
  refine lv_topi (fun x_8 ex_8 => ?_)
  obtain rfl : x_8 = 3 := by rw [ex_8]; decide
  refine va_sld hx hb hX hbl hbA hS (t_in (by omega) (by omega)) dL_law_464 ?_
  refine lv_aload_n hx hb dL_law_465 rfl (lv_at hl 3 rfl) ?_
  refine lv_iload_n hx hb dL_law_466 rfl (lv_at hl 0 rfl) ?_
  refine lv_iconst (v := 4) hx hb dL_law_467 (by decide) ?_
  refine lv_iadd hx hb dL_law_468 ?_
  refine lv_topi (fun x_9 ex_9 => ?_)
  obtain rfl : x_9 = 4 := by rw [ex_9]; decide
  refine va_sld hx hb hX hbl hbA hS (t_in (by omega) (by omega)) dL_law_469 ?_
  refine lv_aload_n hx hb dL_law_470 rfl (lv_at hl 3 rfl) ?_
  refine lv_iload_n hx hb dL_law_471 rfl (lv_at hl 0 rfl) ?_
  refine lv_iconst (v := 5) hx hb dL_law_472 (by decide) ?_
  refine lv_iadd hx hb dL_law_473 ?_
  refine lv_topi (fun x_10 ex_10 => ?_)
  obtain rfl : x_10 = 5 := by rw [ex_10]; decide
  refine va_sld hx hb hX hbl hbA hS (t_in (by omega) (by omega)) dL_law_474 ?_
  have hPc := hP.sub (ws' := [(yh, .inr (11, [.int 0, .int 0, .int 0, .int 0, .int 0, .int 0, .int 0, .int 0, .int 0, .ref ya_isPriest, .ref ya_bars, .ref ya_joined, .ref ya_turns, .ref ya_awayMonk, .ref ya_awayFrom, .ref ya_awayTo, .ref ya_feastDay, .ref ya_rank, .ref ya_isWeekly, .ref ya_isDouble, .ref ya_giftDay, .ref ya_giftFrom, .ref ya_owed, .ref ya_said, .ref ya_spared, .ref ya_leaveGift, .ref ya_leaveFrom, .ref ya_leaveTo, .ref ya_lateDay, .ref ya_lateOffice, .ref ya_lateBy, .ref ya_guests, .ref ya_who, .ref ya_used, .ref ya_lacks, .ref ya_candles, .ref ya_masses, .ref ya_owing, .ref ya_heldOn, .ref ya_waits, .ref ya_tape, .ref ya_text, .int 0, .int 0, .int 0, .int (-1), .int 0, .ref ya_statements, .ref ya_taken, .ref ya_sort, .ref ya_first, .ref ya_second, .int 0, .int 0])), (ya_tape, .inl (cB, 600, .inl yf_tape))]) [0, 1] rfl
  refine rwV (As := [.int (xs (1 : Int32).toNatClampNeg), .int (xs (2 : Int32).toNatClampNeg), .int (xs (3 : Int32).toNatClampNeg), .int (xs (4 : Int32).toNatClampNeg), .int (xs (5 : Int32).toNatClampNeg)]) (rest := [.int r_a]) (wc := [(yh, .inr (11, [.int 0, .int 0, .int 0, .int 0, .int 0, .int 0, .int 0, .int 0, .int 0, .ref ya_isPriest, .ref ya_bars, .ref ya_joined, .ref ya_turns, .ref ya_awayMonk, .ref ya_awayFrom, .ref ya_awayTo, .ref ya_feastDay, .ref ya_rank, .ref ya_isWeekly, .ref ya_isDouble, .ref ya_giftDay, .ref ya_giftFrom, .ref ya_owed, .ref ya_said, .ref ya_spared, .ref ya_leaveGift, .ref ya_leaveFrom, .ref ya_leaveTo, .ref ya_lateDay, .ref ya_lateOffice, .ref ya_lateBy, .ref ya_guests, .ref ya_who, .ref ya_used, .ref ya_lacks, .ref ya_candles, .ref ya_masses, .ref ya_owing, .ref ya_heldOn, .ref ya_waits, .ref ya_tape, .ref ya_text, .int 0, .int 0, .int 0, .int (-1), .int 0, .ref ya_statements, .ref ya_taken, .ref ya_sort, .ref ya_first, .ref ya_second, .int 0, .int 0])), (ya_tape, .inl (cB, 600, .inl yf_tape))]) (wr := [(xh, .inr (10, [.ref xa_bells, .ref xa_feasts, .ref xa_tape, .ref xa_reader, .ref xa_rules, .ref xa_monks, .ref xa_duties, .ref xa_gifts, .ref xa_figures, .int 0, .int 0, .int 0, .int 0, .int (-1), .int 0])), (xa_tape, .inr (8, [.ref xta_bytes, .int n1_a])), (xta_bytes, .inl (cB, 600, .inl tf1_a))]) S (q_feed  ) (cwV 5 hts gL_law_X12_feed rfl rfl rfl (by decide +kernel) ⟨Nat.le_of_ble_eq_true rfl, Nat.le_of_ble_eq_true rfl⟩) hK hP hD hS hA [0, 1] [2, 3, 4] rfl rfl (by decide) (by decide) (by decide) (va_recv hK.1 hPc (ci := 11) (q0 := 0) rfl rfl) rfl hl.1 rfl (Nat.le_of_ble_eq_true rfl) dL_law_475 ⟨Nat.le_of_ble_eq_true rfl, Nat.le_of_ble_eq_true rfl⟩ (fun r_b_ u_b_ H locs hw_b_ hP hD hS => ?_)
  obtain ⟨n1_b_, f1_b_⟩ := u_b_
  have hw_b_ : r_b_.toInt = 20 := hw_b_
  have hP : va_P D vwCl [(xh, .inr (10, [.ref xa_bells, .ref xa_feasts, .ref xa_tape, .ref xa_reader, .ref xa_rules, .ref xa_monks, .ref xa_duties, .ref xa_gifts, .ref xa_figures, .int 0, .int 0, .int 0, .int 0, .int (-1), .int 0])), (xa_tape, .inr (8, [.ref xta_bytes, .int n1_a])), (xta_bytes, .inl (cB, 600, .inl tf1_a)), (yh, .inr (11, [.int 0, .int 0, .int 0, .int 0, .int 0, .int 0, .int 0, .int 0, .int 0, .ref ya_isPriest, .ref ya_bars, .ref ya_joined, .ref ya_turns, .ref ya_awayMonk, .ref ya_awayFrom, .ref ya_awayTo, .ref ya_feastDay, .ref ya_rank, .ref ya_isWeekly, .ref ya_isDouble, .ref ya_giftDay, .ref ya_giftFrom, .ref ya_owed, .ref ya_said, .ref ya_spared, .ref ya_leaveGift, .ref ya_leaveFrom, .ref ya_leaveTo, .ref ya_lateDay, .ref ya_lateOffice, .ref ya_lateBy, .ref ya_guests, .ref ya_who, .ref ya_used, .ref ya_lacks, .ref ya_candles, .ref ya_masses, .ref ya_owing, .ref ya_heldOn, .ref ya_waits, .ref ya_tape, .ref ya_text, .int n1_b_, .int 0, .int 0, .int (-1), .int 0, .ref ya_statements, .ref ya_taken, .ref ya_sort, .ref ya_first, .ref ya_second, .int 0, .int 0])), (ya_tape, .inl (cB, 600, .inl f1_b_))] H := hP
  have hD : va_D A [(xh, .inr (10, [.ref xa_bells, .ref xa_feasts, .ref xa_tape, .ref xa_reader, .ref xa_rules, .ref xa_monks, .ref xa_duties, .ref xa_gifts, .ref xa_figures, .int 0, .int 0, .int 0, .int 0, .int (-1), .int 0])), (xa_tape, .inr (8, [.ref xta_bytes, .int n1_a])), (xta_bytes, .inl (cB, 600, .inl tf1_a)), (yh, .inr (11, [.int 0, .int 0, .int 0, .int 0, .int 0, .int 0, .int 0, .int 0, .int 0, .ref ya_isPriest, .ref ya_bars, .ref ya_joined, .ref ya_turns, .ref ya_awayMonk, .ref ya_awayFrom, .ref ya_awayTo, .ref ya_feastDay, .ref ya_rank, .ref ya_isWeekly, .ref ya_isDouble, .ref ya_giftDay, .ref ya_giftFrom, .ref ya_owed, .ref ya_said, .ref ya_spared, .ref ya_leaveGift, .ref ya_leaveFrom, .ref ya_leaveTo, .ref ya_lateDay, .ref ya_lateOffice, .ref ya_lateBy, .ref ya_guests, .ref ya_who, .ref ya_used, .ref ya_lacks, .ref ya_candles, .ref ya_masses, .ref ya_owing, .ref ya_heldOn, .ref ya_waits, .ref ya_tape, .ref ya_text, .int n1_b_, .int 0, .int 0, .int (-1), .int 0, .ref ya_statements, .ref ya_taken, .ref ya_sort, .ref ya_first, .ref ya_second, .int 0, .int 0])), (ya_tape, .inl (cB, 600, .inl f1_b_))] := hD
  refine lv_icmp_eq (tgt := 917) hx hb dL_law_478 (by decide) (fun cmp => ?_) (fun cmp => ?_)
  · have tcmp := t_eq cmp
    obtain ⟨x_12, ex_12⟩ : ∃ y : Int32, y = 0 + 6 := ⟨_, rfl⟩
    obtain rfl : x_12 = 6 := by rw [ex_12]; decide
    refine lv_iinc (v := 6) (lv' := [(3, .int 6), (2, .ref yh), (1, .ref xh), (0, .ref b)]) hx hb dL_law_917 hl (k := 0) rfl (by decide) (by decide) rfl (fun ls hl => ?_)
    refine lv_goto (tgt := 18) hx hb dL_law_920 (by decide) ?_
    refine lv_iload_n hx hb dL_law_18 rfl (lv_at hl 0 rfl) ?_
    refine lv_aload_n hx hb dL_law_19 rfl (lv_at hl 3 rfl) ?_
    refine va_slen hx hb hX hbl hbA hS dL_law_20 ?_
    refine lv_topi (fun x_13 ex_13 => ?_)
    have tx_13 : x_13.toInt = L := by rw [ex_13]; exact nI_toInt (by omega)
    refine lv_bipush (v := 6) hx hb dL_law_21 (by decide) ?_
    refine lv_isub hx hb dL_law_23 ?_
    refine lv_topi (fun x_14 ex_14 => ?_)
    first | have tx_14 := t_sub ex_14 (by omega) (by omega) | skip
    refine lv_icmp_gt (tgt := 923) hx hb dL_law_24 (by decide) (fun c_15 => ?_) (fun c_15 => ?_)
    · have tc_15 := t_lt c_15
      refine lv_iconst (v := 1) hx hb dL_law_923 (by decide) ?_
      refine va_forget (fun q hq => hAs _ (hS.2.2 q hq)) ?_
      refine W.widen (k := 600000) (n := 7302250) (Nat.le_of_ble_eq_true rfl) (Nat.le_of_ble_eq_true rfl) ?_
      exact lw_ret hx hb hr hlocks dL_law_924
    · have tc_15 := t_nlt c_15
      exfalso; omega
  · have tcmp := t_neq cmp
    exact absurd (Int32.toInt_inj.mp (by omega)) cmp

set_option maxHeartbeats 8000000 in
set_option maxRecDepth 100000 in
theorem law_case9 {p : Program} {e : Env} {s : State} {m : MethodId} {below : List Frame} {meth : Method} {c : Code} {l : Launch} {b L : Nat} {xs : Nat → Int32} {D : va_G} {cI cZ cB : ClassId} {A : Nat → Prop} {xh xa_bells xa_feasts xa_tape xa_reader xa_rules xa_monks xa_duties xa_gifts xa_figures xta_bytes xra_since xra_sizes xra_kinds xra_firsts xra_seconds xqa_tokens xqa_kinds xqa_firsts xqa_seconds xqta_kinds xqta_places xqta_values yh ya_isPriest ya_bars ya_joined ya_turns ya_awayMonk ya_awayFrom ya_awayTo ya_feastDay ya_rank ya_isWeekly ya_isDouble ya_giftDay ya_giftFrom ya_owed ya_said ya_spared ya_leaveGift ya_leaveFrom ya_leaveTo ya_lateDay ya_lateOffice ya_lateBy ya_guests ya_who ya_used ya_lacks ya_candles ya_masses ya_owing ya_heldOn ya_waits ya_tape ya_text ya_statements ya_taken ya_sort ya_first ya_second : Nat} {xrf_since xrf_sizes xrf_kinds xrf_firsts xrf_seconds xqf_kinds xqf_firsts xqf_seconds xqtf_kinds yf_statements yf_taken : Nat → Int32}  (hx : p.tables.exec = Jvm.exec) (hb : c.code = cL_law) (hr : meth.sig.returnType = ret) (hml : c.maxLocals = 4) (hown : s.vm.findClass RL = some m.cls) (hts0 : ∀ w ∈ lw_tbl, w.before #[Value.ref b] s = true) (hX : va_X b L xs s s.heap) (hbl : b < s.heap.size) (hlocks : meth.locks = false) (hK : KK D cI cZ cB s) (hA : ∀ q : Nat, s.heap.size ≤ q → A q) (hAs : ∀ q : Nat, A q → s.heap.size ≤ q) (hbA : ¬ A b) (hL : L ≤ 6) (h6 : 6 ≤ L) {H : Heap} {locs : List Loc} (hP : va_P D vwCl [(xh, .inr (10, [.ref xa_bells, .ref xa_feasts, .ref xa_tape, .ref xa_reader, .ref xa_rules, .ref xa_monks, .ref xa_duties, .ref xa_gifts, .ref xa_figures, .int 0, .int 0, .int 0, .int 0, .int (-1), .int 0])), (xa_tape, .inr (8, [.ref xta_bytes, .int 0])), (xa_rules, .inr (7, [.ref xra_since, .ref xra_sizes, .ref xra_kinds, .ref xra_firsts, .ref xra_seconds, .int 0])), (xra_since, .inl (cI, 10, .inl xrf_since)), (xra_sizes, .inl (cI, 10, .inl xrf_sizes)), (xra_kinds, .inl (cI, 160, .inl xrf_kinds)), (xra_firsts, .inl (cI, 160, .inl xrf_firsts)), (xra_seconds, .inl (cI, 160, .inl xrf_seconds)), (xa_reader, .inr (6, [.ref xqa_tokens, .ref xqa_kinds, .ref xqa_firsts, .ref xqa_seconds, .int 0, .int 0, .int 0, .int 0])), (xqa_kinds, .inl (cI, 16, .inl xqf_kinds)), (xqa_firsts, .inl (cI, 16, .inl xqf_firsts)), (xqa_seconds, .inl (cI, 16, .inl xqf_seconds)), (xqa_tokens, .inr (9, [.ref xqta_kinds, .ref xqta_places, .ref xqta_values, .int 0, .int 0])), (xqta_kinds, .inl (cI, 97, .inl xqtf_kinds)), (yh, .inr (11, [.int 0, .int 0, .int 0, .int 0, .int 0, .int 0, .int 0, .int 0, .int 0, .ref ya_isPriest, .ref ya_bars, .ref ya_joined, .ref ya_turns, .ref ya_awayMonk, .ref ya_awayFrom, .ref ya_awayTo, .ref ya_feastDay, .ref ya_rank, .ref ya_isWeekly, .ref ya_isDouble, .ref ya_giftDay, .ref ya_giftFrom, .ref ya_owed, .ref ya_said, .ref ya_spared, .ref ya_leaveGift, .ref ya_leaveFrom, .ref ya_leaveTo, .ref ya_lateDay, .ref ya_lateOffice, .ref ya_lateBy, .ref ya_guests, .ref ya_who, .ref ya_used, .ref ya_lacks, .ref ya_candles, .ref ya_masses, .ref ya_owing, .ref ya_heldOn, .ref ya_waits, .ref ya_tape, .ref ya_text, .int 0, .int 0, .int 0, .int (-1), .int 0, .ref ya_statements, .ref ya_taken, .ref ya_sort, .ref ya_first, .ref ya_second, .int 0, .int 0])), (ya_statements, .inl (cI, 11, .inl yf_statements)), (ya_taken, .inl (cI, 11, .inl yf_taken))] H) (hD : va_D A [(xh, .inr (10, [.ref xa_bells, .ref xa_feasts, .ref xa_tape, .ref xa_reader, .ref xa_rules, .ref xa_monks, .ref xa_duties, .ref xa_gifts, .ref xa_figures, .int 0, .int 0, .int 0, .int 0, .int (-1), .int 0])), (xa_tape, .inr (8, [.ref xta_bytes, .int 0])), (xa_rules, .inr (7, [.ref xra_since, .ref xra_sizes, .ref xra_kinds, .ref xra_firsts, .ref xra_seconds, .int 0])), (xra_since, .inl (cI, 10, .inl xrf_since)), (xra_sizes, .inl (cI, 10, .inl xrf_sizes)), (xra_kinds, .inl (cI, 160, .inl xrf_kinds)), (xra_firsts, .inl (cI, 160, .inl xrf_firsts)), (xra_seconds, .inl (cI, 160, .inl xrf_seconds)), (xa_reader, .inr (6, [.ref xqa_tokens, .ref xqa_kinds, .ref xqa_firsts, .ref xqa_seconds, .int 0, .int 0, .int 0, .int 0])), (xqa_kinds, .inl (cI, 16, .inl xqf_kinds)), (xqa_firsts, .inl (cI, 16, .inl xqf_firsts)), (xqa_seconds, .inl (cI, 16, .inl xqf_seconds)), (xqa_tokens, .inr (9, [.ref xqta_kinds, .ref xqta_places, .ref xqta_values, .int 0, .int 0])), (xqta_kinds, .inl (cI, 97, .inl xqtf_kinds)), (yh, .inr (11, [.int 0, .int 0, .int 0, .int 0, .int 0, .int 0, .int 0, .int 0, .int 0, .ref ya_isPriest, .ref ya_bars, .ref ya_joined, .ref ya_turns, .ref ya_awayMonk, .ref ya_awayFrom, .ref ya_awayTo, .ref ya_feastDay, .ref ya_rank, .ref ya_isWeekly, .ref ya_isDouble, .ref ya_giftDay, .ref ya_giftFrom, .ref ya_owed, .ref ya_said, .ref ya_spared, .ref ya_leaveGift, .ref ya_leaveFrom, .ref ya_leaveTo, .ref ya_lateDay, .ref ya_lateOffice, .ref ya_lateBy, .ref ya_guests, .ref ya_who, .ref ya_used, .ref ya_lacks, .ref ya_candles, .ref ya_masses, .ref ya_owing, .ref ya_heldOn, .ref ya_waits, .ref ya_tape, .ref ya_text, .int 0, .int 0, .int 0, .int (-1), .int 0, .ref ya_statements, .ref ya_taken, .ref ya_sort, .ref ya_first, .ref ya_second, .int 0, .int 0])), (ya_statements, .inl (cI, 11, .inl yf_statements)), (ya_taken, .inl (cI, 11, .inl yf_taken))]) (hS : va_S A s.heap H locs) (ls : Array Slot) (hl : lv_has ls 4 [(3, .int 0), (2, .ref yh), (1, .ref xh), (0, .ref b)]) : W p l e room_1 s m #[Value.ref b] below meth c H locs 90 16895 (lw_Z below #[Value.ref b] s) (F0 m 483 ls []) := by
  have hts : ∀ w ∈ wsL_law, w.before #[Value.ref b] s = true := fun w h => hts0 w (wsL_law_in w h)
  have S : CallFix p m c cL_law 4 s #[Value.ref b] wsL_law RL := ⟨hx, hb, hml, hown, hts⟩
  have kk0 : (0 : Int32).toInt = 0 := by decide
  have kk1 : (1 : Int32).toInt = 1 := by decide
  have kk2 : (2 : Int32).toInt = 2 := by decide
  have kk3 : (3 : Int32).toInt = 3 := by decide
  have kk4 : (4 : Int32).toInt = 4 := by decide
  have kk5 : (5 : Int32).toInt = 5 := by decide
  have kk6 : (6 : Int32).toInt = 6 := by decide
  have kk31 : (31 : Int32).toInt = 31 := by decide
  have kkm1 : (-1 : Int32).toInt = -1 := by decide
  refine lv_aload_n hx hb dL_law_483 rfl (lv_at hl 2 rfl) ?_
  refine lv_aload_n hx hb dL_law_484 rfl (lv_at hl 3 rfl) ?_
  refine lv_iload_n hx hb dL_law_485 rfl (lv_at hl 0 rfl) ?_
  refine lv_iconst (v := 1) hx hb dL_law_486 (by decide) ?_
  refine lv_iadd hx hb dL_law_487 ?_
  refine lv_topi (fun x_1 ex_1 => ?_)
  obtain rfl : x_1 = 1 := by rw [ex_1]; decide
  refine va_sld hx hb hX hbl hbA hS (t_in (by omega) (by omega)) dL_law_488 ?_
  have hPc := hP.sub (ws' := [(xh, .inr (10, [.ref xa_bells, .ref xa_feasts, .ref xa_tape, .ref xa_reader, .ref xa_rules, .ref xa_monks, .ref xa_duties, .ref xa_gifts, .ref xa_figures, .int 0, .int 0, .int 0, .int 0, .int (-1), .int 0])), (xa_tape, .inr (8, [.ref xta_bytes, .int 0])), (xa_rules, .inr (7, [.ref xra_since, .ref xra_sizes, .ref xra_kinds, .ref xra_firsts, .ref xra_seconds, .int 0])), (xra_since, .inl (cI, 10, .inl xrf_since)), (xra_sizes, .inl (cI, 10, .inl xrf_sizes)), (xra_kinds, .inl (cI, 160, .inl xrf_kinds)), (xra_firsts, .inl (cI, 160, .inl xrf_firsts)), (xra_seconds, .inl (cI, 160, .inl xrf_seconds)), (xa_reader, .inr (6, [.ref xqa_tokens, .ref xqa_kinds, .ref xqa_firsts, .ref xqa_seconds, .int 0, .int 0, .int 0, .int 0])), (xqa_kinds, .inl (cI, 16, .inl xqf_kinds)), (xqa_firsts, .inl (cI, 16, .inl xqf_firsts)), (xqa_seconds, .inl (cI, 16, .inl xqf_seconds)), (xqa_tokens, .inr (9, [.ref xqta_kinds, .ref xqta_places, .ref xqta_values, .int 0, .int 0])), (xqta_kinds, .inl (cI, 97, .inl xqtf_kinds))]) [0, 1, 2, 3, 4, 5, 6, 7, 8, 9, 10, 11, 12, 13] rfl
  refine rwV (As := [.int (xs (1 : Int32).toNatClampNeg)]) (rest := []) (wc := [(xh, .inr (10, [.ref xa_bells, .ref xa_feasts, .ref xa_tape, .ref xa_reader, .ref xa_rules, .ref xa_monks, .ref xa_duties, .ref xa_gifts, .ref xa_figures, .int 0, .int 0, .int 0, .int 0, .int (-1), .int 0])), (xa_tape, .inr (8, [.ref xta_bytes, .int 0])), (xa_rules, .inr (7, [.ref xra_since, .ref xra_sizes, .ref xra_kinds, .ref xra_firsts, .ref xra_seconds, .int 0])), (xra_since, .inl (cI, 10, .inl xrf_since)), (xra_sizes, .inl (cI, 10, .inl xrf_sizes)), (xra_kinds, .inl (cI, 160, .inl xrf_kinds)), (xra_firsts, .inl (cI, 160, .inl xrf_firsts)), (xra_seconds, .inl (cI, 160, .inl xrf_seconds)), (xa_reader, .inr (6, [.ref xqa_tokens, .ref xqa_kinds, .ref xqa_firsts, .ref xqa_seconds, .int 0, .int 0, .int 0, .int 0])), (xqa_kinds, .inl (cI, 16, .inl xqf_kinds)), (xqa_firsts, .inl (cI, 16, .inl xqf_firsts)), (xqa_seconds, .inl (cI, 16, .inl xqf_seconds)), (xqa_tokens, .inr (9, [.ref xqta_kinds, .ref xqta_places, .ref xqta_values, .int 0, .int 0])), (xqta_kinds, .inl (cI, 97, .inl xqtf_kinds))]) (wr := [(yh, .inr (11, [.int 0, .int 0, .int 0, .int 0, .int 0, .int 0, .int 0, .int 0, .int 0, .ref ya_isPriest, .ref ya_bars, .ref ya_joined, .ref ya_turns, .ref ya_awayMonk, .ref ya_awayFrom, .ref ya_awayTo, .ref ya_feastDay, .ref ya_rank, .ref ya_isWeekly, .ref ya_isDouble, .ref ya_giftDay, .ref ya_giftFrom, .ref ya_owed, .ref ya_said, .ref ya_spared, .ref ya_leaveGift, .ref ya_leaveFrom, .ref ya_leaveTo, .ref ya_lateDay, .ref ya_lateOffice, .ref ya_lateBy, .ref ya_guests, .ref ya_who, .ref ya_used, .ref ya_lacks, .ref ya_candles, .ref ya_masses, .ref ya_owing, .ref ya_heldOn, .ref ya_waits, .ref ya_tape, .ref ya_text, .int 0, .int 0, .int 0, .int (-1), .int 0, .ref ya_statements, .ref ya_taken, .ref ya_sort, .ref ya_first, .ref ya_second, .int 0, .int 0])), (ya_statements, .inl (cI, 11, .inl yf_statements)), (ya_taken, .inl (cI, 11, .inl yf_taken))]) S (p_rule  ) (cwV 1 hts gL_law_X11_rule rfl rfl rfl (by decide +kernel) ⟨Nat.le_of_ble_eq_true rfl, Nat.le_of_ble_eq_true rfl⟩) hK hP hD hS hA [0, 1, 2, 3, 4, 5, 6, 7, 8, 9, 10, 11, 12, 13] [14, 15, 16] rfl rfl (by decide) (by decide) (by decide) (va_recv hK.1 hPc (ci := 10) (q0 := 0) rfl rfl) rfl hl.1 rfl (Nat.le_of_ble_eq_true rfl) dL_law_489 ⟨Nat.le_of_ble_eq_true rfl, Nat.le_of_ble_eq_true rfl⟩ (fun r_a u_a H locs hw_a hP hD hS => ?_)
  obtain ⟨fp1_a, tl1_a, n1_a, rf1_since_a, rf1_sizes_a, rf1_kinds_a, rf1_firsts_a, rf1_seconds_a, q1_a, q2_a, q3_a, q4_a⟩ := u_a
  have hw_a : (((xs (1 : Int32).toNatClampNeg).toInt = 0) → r_a.toInt = 0) ∧ (¬ ((xs (1 : Int32).toNatClampNeg).toInt = 0) → r_a.toInt = -2) := hw_a
  have hP : va_P D vwCl [(yh, .inr (11, [.int 0, .int 0, .int 0, .int 0, .int 0, .int 0, .int 0, .int 0, .int 0, .ref ya_isPriest, .ref ya_bars, .ref ya_joined, .ref ya_turns, .ref ya_awayMonk, .ref ya_awayFrom, .ref ya_awayTo, .ref ya_feastDay, .ref ya_rank, .ref ya_isWeekly, .ref ya_isDouble, .ref ya_giftDay, .ref ya_giftFrom, .ref ya_owed, .ref ya_said, .ref ya_spared, .ref ya_leaveGift, .ref ya_leaveFrom, .ref ya_leaveTo, .ref ya_lateDay, .ref ya_lateOffice, .ref ya_lateBy, .ref ya_guests, .ref ya_who, .ref ya_used, .ref ya_lacks, .ref ya_candles, .ref ya_masses, .ref ya_owing, .ref ya_heldOn, .ref ya_waits, .ref ya_tape, .ref ya_text, .int 0, .int 0, .int 0, .int (-1), .int 0, .ref ya_statements, .ref ya_taken, .ref ya_sort, .ref ya_first, .ref ya_second, .int 0, .int 0])), (ya_statements, .inl (cI, 11, .inl yf_statements)), (ya_taken, .inl (cI, 11, .inl yf_taken)), (xh, .inr (10, [.ref xa_bells, .ref xa_feasts, .ref xa_tape, .ref xa_reader, .ref xa_rules, .ref xa_monks, .ref xa_duties, .ref xa_gifts, .ref xa_figures, .int 0, .int 0, .int 0, .int 0, .int fp1_a, .int 0])), (xa_tape, .inr (8, [.ref xta_bytes, .int tl1_a])), (xa_rules, .inr (7, [.ref xra_since, .ref xra_sizes, .ref xra_kinds, .ref xra_firsts, .ref xra_seconds, .int n1_a])), (xra_since, .inl (cI, 10, .inl rf1_since_a)), (xra_sizes, .inl (cI, 10, .inl rf1_sizes_a)), (xra_kinds, .inl (cI, 160, .inl rf1_kinds_a)), (xra_firsts, .inl (cI, 160, .inl rf1_firsts_a)), (xra_seconds, .inl (cI, 160, .inl rf1_seconds_a)), (xa_reader, .inr (6, [.ref xqa_tokens, .ref xqa_kinds, .ref xqa_firsts, .ref xqa_seconds, .int q1_a, .int q2_a, .int 0, .int 0])), (xqa_kinds, .inl (cI, 16, .inl xqf_kinds)), (xqa_firsts, .inl (cI, 16, .inl xqf_firsts)), (xqa_seconds, .inl (cI, 16, .inl xqf_seconds)), (xqa_tokens, .inr (9, [.ref xqta_kinds, .ref xqta_places, .ref xqta_values, .int q3_a, .int q4_a])), (xqta_kinds, .inl (cI, 97, .inl xqtf_kinds))] H := hP
  have hD : va_D A [(yh, .inr (11, [.int 0, .int 0, .int 0, .int 0, .int 0, .int 0, .int 0, .int 0, .int 0, .ref ya_isPriest, .ref ya_bars, .ref ya_joined, .ref ya_turns, .ref ya_awayMonk, .ref ya_awayFrom, .ref ya_awayTo, .ref ya_feastDay, .ref ya_rank, .ref ya_isWeekly, .ref ya_isDouble, .ref ya_giftDay, .ref ya_giftFrom, .ref ya_owed, .ref ya_said, .ref ya_spared, .ref ya_leaveGift, .ref ya_leaveFrom, .ref ya_leaveTo, .ref ya_lateDay, .ref ya_lateOffice, .ref ya_lateBy, .ref ya_guests, .ref ya_who, .ref ya_used, .ref ya_lacks, .ref ya_candles, .ref ya_masses, .ref ya_owing, .ref ya_heldOn, .ref ya_waits, .ref ya_tape, .ref ya_text, .int 0, .int 0, .int 0, .int (-1), .int 0, .ref ya_statements, .ref ya_taken, .ref ya_sort, .ref ya_first, .ref ya_second, .int 0, .int 0])), (ya_statements, .inl (cI, 11, .inl yf_statements)), (ya_taken, .inl (cI, 11, .inl yf_taken)), (xh, .inr (10, [.ref xa_bells, .ref xa_feasts, .ref xa_tape, .ref xa_reader, .ref xa_rules, .ref xa_monks, .ref xa_duties, .ref xa_gifts, .ref xa_figures, .int 0, .int 0, .int 0, .int 0, .int fp1_a, .int 0])), (xa_tape, .inr (8, [.ref xta_bytes, .int tl1_a])), (xa_rules, .inr (7, [.ref xra_since, .ref xra_sizes, .ref xra_kinds, .ref xra_firsts, .ref xra_seconds, .int n1_a])), (xra_since, .inl (cI, 10, .inl rf1_since_a)), (xra_sizes, .inl (cI, 10, .inl rf1_sizes_a)), (xra_kinds, .inl (cI, 160, .inl rf1_kinds_a)), (xra_firsts, .inl (cI, 160, .inl rf1_firsts_a)), (xra_seconds, .inl (cI, 160, .inl rf1_seconds_a)), (xa_reader, .inr (6, [.ref xqa_tokens, .ref xqa_kinds, .ref xqa_firsts, .ref xqa_seconds, .int q1_a, .int q2_a, .int 0, .int 0])), (xqa_kinds, .inl (cI, 16, .inl xqf_kinds)), (xqa_firsts, .inl (cI, 16, .inl xqf_firsts)), (xqa_seconds, .inl (cI, 16, .inl xqf_seconds)), (xqa_tokens, .inr (9, [.ref xqta_kinds, .ref xqta_places, .ref xqta_values, .int q3_a, .int q4_a])), (xqta_kinds, .inl (cI, 97, .inl xqtf_kinds))] := hD
  refine lv_aload_n hx hb dL_law_492 rfl (lv_at hl 1 rfl) ?_
  refine lv_aload_n hx hb dL_law_493 rfl (lv_at hl 3 rfl) ?_
  refine lv_iload_n hx hb dL_law_494 rfl (lv_at hl 0 rfl) ?_
  refine lv_iconst (v := 1) hx hb dL_law_495 (by decide) ?_
  refine lv_iadd hx hb dL_law_496 ?_
  refine lv_topi (fun x_2 ex_2 => ?_)
  obtain rfl : x_2 = 1 := by rw [ex_2]; decide
  refine va_sld hx hb hX hbl hbA hS (t_in (by omega) (by omega)) dL_law_497 ?_
  have hPc := hP.sub (ws' := [(yh, .inr (11, [.int 0, .int 0, .int 0, .int 0, .int 0, .int 0, .int 0, .int 0, .int 0, .ref ya_isPriest, .ref ya_bars, .ref ya_joined, .ref ya_turns, .ref ya_awayMonk, .ref ya_awayFrom, .ref ya_awayTo, .ref ya_feastDay, .ref ya_rank, .ref ya_isWeekly, .ref ya_isDouble, .ref ya_giftDay, .ref ya_giftFrom, .ref ya_owed, .ref ya_said, .ref ya_spared, .ref ya_leaveGift, .ref ya_leaveFrom, .ref ya_leaveTo, .ref ya_lateDay, .ref ya_lateOffice, .ref ya_lateBy, .ref ya_guests, .ref ya_who, .ref ya_used, .ref ya_lacks, .ref ya_candles, .ref ya_masses, .ref ya_owing, .ref ya_heldOn, .ref ya_waits, .ref ya_tape, .ref ya_text, .int 0, .int 0, .int 0, .int (-1), .int 0, .ref ya_statements, .ref ya_taken, .ref ya_sort, .ref ya_first, .ref ya_second, .int 0, .int 0])), (ya_statements, .inl (cI, 11, .inl yf_statements)), (ya_taken, .inl (cI, 11, .inl yf_taken))]) [0, 1, 2] rfl
  refine rwV (As := [.int (xs (1 : Int32).toNatClampNeg)]) (rest := [.int r_a]) (wc := [(yh, .inr (11, [.int 0, .int 0, .int 0, .int 0, .int 0, .int 0, .int 0, .int 0, .int 0, .ref ya_isPriest, .ref ya_bars, .ref ya_joined, .ref ya_turns, .ref ya_awayMonk, .ref ya_awayFrom, .ref ya_awayTo, .ref ya_feastDay, .ref ya_rank, .ref ya_isWeekly, .ref ya_isDouble, .ref ya_giftDay, .ref ya_giftFrom, .ref ya_owed, .ref ya_said, .ref ya_spared, .ref ya_leaveGift, .ref ya_leaveFrom, .ref ya_leaveTo, .ref ya_lateDay, .ref ya_lateOffice, .ref ya_lateBy, .ref ya_guests, .ref ya_who, .ref ya_used, .ref ya_lacks, .ref ya_candles, .ref ya_masses, .ref ya_owing, .ref ya_heldOn, .ref ya_waits, .ref ya_tape, .ref ya_text, .int 0, .int 0, .int 0, .int (-1), .int 0, .ref ya_statements, .ref ya_taken, .ref ya_sort, .ref ya_first, .ref ya_second, .int 0, .int 0])), (ya_statements, .inl (cI, 11, .inl yf_statements)), (ya_taken, .inl (cI, 11, .inl yf_taken))]) (wr := [(xh, .inr (10, [.ref xa_bells, .ref xa_feasts, .ref xa_tape, .ref xa_reader, .ref xa_rules, .ref xa_monks, .ref xa_duties, .ref xa_gifts, .ref xa_figures, .int 0, .int 0, .int 0, .int 0, .int fp1_a, .int 0])), (xa_tape, .inr (8, [.ref xta_bytes, .int tl1_a])), (xa_rules, .inr (7, [.ref xra_since, .ref xra_sizes, .ref xra_kinds, .ref xra_firsts, .ref xra_seconds, .int n1_a])), (xra_since, .inl (cI, 10, .inl rf1_since_a)), (xra_sizes, .inl (cI, 10, .inl rf1_sizes_a)), (xra_kinds, .inl (cI, 160, .inl rf1_kinds_a)), (xra_firsts, .inl (cI, 160, .inl rf1_firsts_a)), (xra_seconds, .inl (cI, 160, .inl rf1_seconds_a)), (xa_reader, .inr (6, [.ref xqa_tokens, .ref xqa_kinds, .ref xqa_firsts, .ref xqa_seconds, .int q1_a, .int q2_a, .int 0, .int 0])), (xqa_kinds, .inl (cI, 16, .inl xqf_kinds)), (xqa_firsts, .inl (cI, 16, .inl xqf_firsts)), (xqa_seconds, .inl (cI, 16, .inl xqf_seconds)), (xqa_tokens, .inr (9, [.ref xqta_kinds, .ref xqta_places, .ref xqta_values, .int q3_a, .int q4_a])), (xqta_kinds, .inl (cI, 97, .inl xqtf_kinds))]) S (q_rule  ) (cwV 1 hts gL_law_X12_rule rfl rfl rfl (by decide +kernel) ⟨Nat.le_of_ble_eq_true rfl, Nat.le_of_ble_eq_true rfl⟩) hK hP hD hS hA [0, 1, 2] [3, 4, 5, 6, 7, 8, 9, 10, 11, 12, 13, 14, 15, 16] rfl rfl (by decide) (by decide) (by decide) (va_recv hK.1 hPc (ci := 11) (q0 := 0) rfl rfl) rfl hl.1 rfl (Nat.le_of_ble_eq_true rfl) dL_law_498 ⟨Nat.le_of_ble_eq_true rfl, Nat.le_of_ble_eq_true rfl⟩ (fun r_b_ u_b_ H locs hw_b_ hP hD hS => ?_)
  obtain ⟨n1_b_, n2_b_, f1_b_, f2_b_⟩ := u_b_
  have hw_b_ : (((xs (1 : Int32).toNatClampNeg).toInt = 0) → r_b_.toInt = 0) ∧ (¬ ((xs (1 : Int32).toNatClampNeg).toInt = 0) → r_b_.toInt = -2) := hw_b_
  have hP : va_P D vwCl [(xh, .inr (10, [.ref xa_bells, .ref xa_feasts, .ref xa_tape, .ref xa_reader, .ref xa_rules, .ref xa_monks, .ref xa_duties, .ref xa_gifts, .ref xa_figures, .int 0, .int 0, .int 0, .int 0, .int fp1_a, .int 0])), (xa_tape, .inr (8, [.ref xta_bytes, .int tl1_a])), (xa_rules, .inr (7, [.ref xra_since, .ref xra_sizes, .ref xra_kinds, .ref xra_firsts, .ref xra_seconds, .int n1_a])), (xra_since, .inl (cI, 10, .inl rf1_since_a)), (xra_sizes, .inl (cI, 10, .inl rf1_sizes_a)), (xra_kinds, .inl (cI, 160, .inl rf1_kinds_a)), (xra_firsts, .inl (cI, 160, .inl rf1_firsts_a)), (xra_seconds, .inl (cI, 160, .inl rf1_seconds_a)), (xa_reader, .inr (6, [.ref xqa_tokens, .ref xqa_kinds, .ref xqa_firsts, .ref xqa_seconds, .int q1_a, .int q2_a, .int 0, .int 0])), (xqa_kinds, .inl (cI, 16, .inl xqf_kinds)), (xqa_firsts, .inl (cI, 16, .inl xqf_firsts)), (xqa_seconds, .inl (cI, 16, .inl xqf_seconds)), (xqa_tokens, .inr (9, [.ref xqta_kinds, .ref xqta_places, .ref xqta_values, .int q3_a, .int q4_a])), (xqta_kinds, .inl (cI, 97, .inl xqtf_kinds)), (yh, .inr (11, [.int 0, .int 0, .int 0, .int 0, .int 0, .int 0, .int 0, .int 0, .int 0, .ref ya_isPriest, .ref ya_bars, .ref ya_joined, .ref ya_turns, .ref ya_awayMonk, .ref ya_awayFrom, .ref ya_awayTo, .ref ya_feastDay, .ref ya_rank, .ref ya_isWeekly, .ref ya_isDouble, .ref ya_giftDay, .ref ya_giftFrom, .ref ya_owed, .ref ya_said, .ref ya_spared, .ref ya_leaveGift, .ref ya_leaveFrom, .ref ya_leaveTo, .ref ya_lateDay, .ref ya_lateOffice, .ref ya_lateBy, .ref ya_guests, .ref ya_who, .ref ya_used, .ref ya_lacks, .ref ya_candles, .ref ya_masses, .ref ya_owing, .ref ya_heldOn, .ref ya_waits, .ref ya_tape, .ref ya_text, .int 0, .int n1_b_, .int 0, .int (-1), .int n2_b_, .ref ya_statements, .ref ya_taken, .ref ya_sort, .ref ya_first, .ref ya_second, .int 0, .int 0])), (ya_statements, .inl (cI, 11, .inl f1_b_)), (ya_taken, .inl (cI, 11, .inl f2_b_))] H := hP
  have hD : va_D A [(xh, .inr (10, [.ref xa_bells, .ref xa_feasts, .ref xa_tape, .ref xa_reader, .ref xa_rules, .ref xa_monks, .ref xa_duties, .ref xa_gifts, .ref xa_figures, .int 0, .int 0, .int 0, .int 0, .int fp1_a, .int 0])), (xa_tape, .inr (8, [.ref xta_bytes, .int tl1_a])), (xa_rules, .inr (7, [.ref xra_since, .ref xra_sizes, .ref xra_kinds, .ref xra_firsts, .ref xra_seconds, .int n1_a])), (xra_since, .inl (cI, 10, .inl rf1_since_a)), (xra_sizes, .inl (cI, 10, .inl rf1_sizes_a)), (xra_kinds, .inl (cI, 160, .inl rf1_kinds_a)), (xra_firsts, .inl (cI, 160, .inl rf1_firsts_a)), (xra_seconds, .inl (cI, 160, .inl rf1_seconds_a)), (xa_reader, .inr (6, [.ref xqa_tokens, .ref xqa_kinds, .ref xqa_firsts, .ref xqa_seconds, .int q1_a, .int q2_a, .int 0, .int 0])), (xqa_kinds, .inl (cI, 16, .inl xqf_kinds)), (xqa_firsts, .inl (cI, 16, .inl xqf_firsts)), (xqa_seconds, .inl (cI, 16, .inl xqf_seconds)), (xqa_tokens, .inr (9, [.ref xqta_kinds, .ref xqta_places, .ref xqta_values, .int q3_a, .int q4_a])), (xqta_kinds, .inl (cI, 97, .inl xqtf_kinds)), (yh, .inr (11, [.int 0, .int 0, .int 0, .int 0, .int 0, .int 0, .int 0, .int 0, .int 0, .ref ya_isPriest, .ref ya_bars, .ref ya_joined, .ref ya_turns, .ref ya_awayMonk, .ref ya_awayFrom, .ref ya_awayTo, .ref ya_feastDay, .ref ya_rank, .ref ya_isWeekly, .ref ya_isDouble, .ref ya_giftDay, .ref ya_giftFrom, .ref ya_owed, .ref ya_said, .ref ya_spared, .ref ya_leaveGift, .ref ya_leaveFrom, .ref ya_leaveTo, .ref ya_lateDay, .ref ya_lateOffice, .ref ya_lateBy, .ref ya_guests, .ref ya_who, .ref ya_used, .ref ya_lacks, .ref ya_candles, .ref ya_masses, .ref ya_owing, .ref ya_heldOn, .ref ya_waits, .ref ya_tape, .ref ya_text, .int 0, .int n1_b_, .int 0, .int (-1), .int n2_b_, .ref ya_statements, .ref ya_taken, .ref ya_sort, .ref ya_first, .ref ya_second, .int 0, .int 0])), (ya_statements, .inl (cI, 11, .inl f1_b_)), (ya_taken, .inl (cI, 11, .inl f2_b_))] := hD
  refine lv_icmp_eq (tgt := 917) hx hb dL_law_501 (by decide) (fun cmp => ?_) (fun cmp => ?_)
  · have tcmp := t_eq cmp
    obtain ⟨x_4, ex_4⟩ : ∃ y : Int32, y = 0 + 6 := ⟨_, rfl⟩
    obtain rfl : x_4 = 6 := by rw [ex_4]; decide
    refine lv_iinc (v := 6) (lv' := [(3, .int 6), (2, .ref yh), (1, .ref xh), (0, .ref b)]) hx hb dL_law_917 hl (k := 0) rfl (by decide) (by decide) rfl (fun ls hl => ?_)
    refine lv_goto (tgt := 18) hx hb dL_law_920 (by decide) ?_
    refine lv_iload_n hx hb dL_law_18 rfl (lv_at hl 0 rfl) ?_
    refine lv_aload_n hx hb dL_law_19 rfl (lv_at hl 3 rfl) ?_
    refine va_slen hx hb hX hbl hbA hS dL_law_20 ?_
    refine lv_topi (fun x_5 ex_5 => ?_)
    have tx_5 : x_5.toInt = L := by rw [ex_5]; exact nI_toInt (by omega)
    refine lv_bipush (v := 6) hx hb dL_law_21 (by decide) ?_
    refine lv_isub hx hb dL_law_23 ?_
    refine lv_topi (fun x_6 ex_6 => ?_)
    first | have tx_6 := t_sub ex_6 (by omega) (by omega) | skip
    refine lv_icmp_gt (tgt := 923) hx hb dL_law_24 (by decide) (fun c_7 => ?_) (fun c_7 => ?_)
    · have tc_7 := t_lt c_7
      refine lv_iconst (v := 1) hx hb dL_law_923 (by decide) ?_
      refine va_forget (fun q hq => hAs _ (hS.2.2 q hq)) ?_
      refine W.widen (k := 600000) (n := 7302250) (Nat.le_of_ble_eq_true rfl) (Nat.le_of_ble_eq_true rfl) ?_
      exact lw_ret hx hb hr hlocks dL_law_924
    · have tc_7 := t_nlt c_7
      exfalso; omega
  · have tcmp := t_neq cmp
    exact absurd (Int32.toInt_inj.mp (by omega)) cmp

set_option maxHeartbeats 8000000 in
set_option maxRecDepth 100000 in
theorem law_case10 {p : Program} {e : Env} {s : State} {m : MethodId} {below : List Frame} {meth : Method} {c : Code} {l : Launch} {b L : Nat} {xs : Nat → Int32} {D : va_G} {cI cZ cB : ClassId} {A : Nat → Prop} {xh xa_bells xa_feasts xa_tape xa_reader xa_rules xa_monks xa_duties xa_gifts xa_figures yh ya_isPriest ya_bars ya_joined ya_turns ya_awayMonk ya_awayFrom ya_awayTo ya_feastDay ya_rank ya_isWeekly ya_isDouble ya_giftDay ya_giftFrom ya_owed ya_said ya_spared ya_leaveGift ya_leaveFrom ya_leaveTo ya_lateDay ya_lateOffice ya_lateBy ya_guests ya_who ya_used ya_lacks ya_candles ya_masses ya_owing ya_heldOn ya_waits ya_tape ya_text ya_statements ya_taken ya_sort ya_first ya_second : Nat}  (hx : p.tables.exec = Jvm.exec) (hb : c.code = cL_law) (hr : meth.sig.returnType = ret) (hml : c.maxLocals = 4) (hown : s.vm.findClass RL = some m.cls) (hts0 : ∀ w ∈ lw_tbl, w.before #[Value.ref b] s = true) (hX : va_X b L xs s s.heap) (hbl : b < s.heap.size) (hlocks : meth.locks = false) (hK : KK D cI cZ cB s) (hA : ∀ q : Nat, s.heap.size ≤ q → A q) (hAs : ∀ q : Nat, A q → s.heap.size ≤ q) (hbA : ¬ A b) (hL : L ≤ 6) (h6 : 6 ≤ L) {H : Heap} {locs : List Loc} (hP : va_P D vwCl [(xh, .inr (10, [.ref xa_bells, .ref xa_feasts, .ref xa_tape, .ref xa_reader, .ref xa_rules, .ref xa_monks, .ref xa_duties, .ref xa_gifts, .ref xa_figures, .int 0, .int 0, .int 0, .int 0, .int (-1), .int 0])), (yh, .inr (11, [.int 0, .int 0, .int 0, .int 0, .int 0, .int 0, .int 0, .int 0, .int 0, .ref ya_isPriest, .ref ya_bars, .ref ya_joined, .ref ya_turns, .ref ya_awayMonk, .ref ya_awayFrom, .ref ya_awayTo, .ref ya_feastDay, .ref ya_rank, .ref ya_isWeekly, .ref ya_isDouble, .ref ya_giftDay, .ref ya_giftFrom, .ref ya_owed, .ref ya_said, .ref ya_spared, .ref ya_leaveGift, .ref ya_leaveFrom, .ref ya_leaveTo, .ref ya_lateDay, .ref ya_lateOffice, .ref ya_lateBy, .ref ya_guests, .ref ya_who, .ref ya_used, .ref ya_lacks, .ref ya_candles, .ref ya_masses, .ref ya_owing, .ref ya_heldOn, .ref ya_waits, .ref ya_tape, .ref ya_text, .int 0, .int 0, .int 0, .int (-1), .int 0, .ref ya_statements, .ref ya_taken, .ref ya_sort, .ref ya_first, .ref ya_second, .int 0, .int 0]))] H) (hD : va_D A [(xh, .inr (10, [.ref xa_bells, .ref xa_feasts, .ref xa_tape, .ref xa_reader, .ref xa_rules, .ref xa_monks, .ref xa_duties, .ref xa_gifts, .ref xa_figures, .int 0, .int 0, .int 0, .int 0, .int (-1), .int 0])), (yh, .inr (11, [.int 0, .int 0, .int 0, .int 0, .int 0, .int 0, .int 0, .int 0, .int 0, .ref ya_isPriest, .ref ya_bars, .ref ya_joined, .ref ya_turns, .ref ya_awayMonk, .ref ya_awayFrom, .ref ya_awayTo, .ref ya_feastDay, .ref ya_rank, .ref ya_isWeekly, .ref ya_isDouble, .ref ya_giftDay, .ref ya_giftFrom, .ref ya_owed, .ref ya_said, .ref ya_spared, .ref ya_leaveGift, .ref ya_leaveFrom, .ref ya_leaveTo, .ref ya_lateDay, .ref ya_lateOffice, .ref ya_lateBy, .ref ya_guests, .ref ya_who, .ref ya_used, .ref ya_lacks, .ref ya_candles, .ref ya_masses, .ref ya_owing, .ref ya_heldOn, .ref ya_waits, .ref ya_tape, .ref ya_text, .int 0, .int 0, .int 0, .int (-1), .int 0, .ref ya_statements, .ref ya_taken, .ref ya_sort, .ref ya_first, .ref ya_second, .int 0, .int 0]))]) (hS : va_S A s.heap H locs) (ls : Array Slot) (hl : lv_has ls 4 [(3, .int 0), (2, .ref yh), (1, .ref xh), (0, .ref b)]) : W p l e room_1 s m #[Value.ref b] below meth c H locs 90 16895 (lw_Z below #[Value.ref b] s) (F0 m 506 ls []) := by
  have hts : ∀ w ∈ wsL_law, w.before #[Value.ref b] s = true := fun w h => hts0 w (wsL_law_in w h)
  have S : CallFix p m c cL_law 4 s #[Value.ref b] wsL_law RL := ⟨hx, hb, hml, hown, hts⟩
  have kk0 : (0 : Int32).toInt = 0 := by decide
  have kk1 : (1 : Int32).toInt = 1 := by decide
  have kk2 : (2 : Int32).toInt = 2 := by decide
  have kk3 : (3 : Int32).toInt = 3 := by decide
  have kk4 : (4 : Int32).toInt = 4 := by decide
  have kk5 : (5 : Int32).toInt = 5 := by decide
  have kk6 : (6 : Int32).toInt = 6 := by decide
  have kk31 : (31 : Int32).toInt = 31 := by decide
  have kkm1 : (-1 : Int32).toInt = -1 := by decide
  refine lv_aload_n hx hb dL_law_506 rfl (lv_at hl 2 rfl) ?_
  have hPc := hP.sub (ws' := [(xh, .inr (10, [.ref xa_bells, .ref xa_feasts, .ref xa_tape, .ref xa_reader, .ref xa_rules, .ref xa_monks, .ref xa_duties, .ref xa_gifts, .ref xa_figures, .int 0, .int 0, .int 0, .int 0, .int (-1), .int 0]))]) [0] rfl
  refine roV (As := []) (rest := []) S (p_fault  ) (cwV 0 hts gL_law_X11_fault rfl rfl rfl (by decide +kernel) ⟨Nat.le_of_ble_eq_true rfl, Nat.le_of_ble_eq_true rfl⟩) hK hPc (va_recv hK.1 hPc (ci := 10) (q0 := 0) rfl rfl) rfl hl.1 rfl (Nat.le_of_ble_eq_true rfl) dL_law_507 ⟨Nat.le_of_ble_eq_true rfl, Nat.le_of_ble_eq_true rfl⟩ (fun r_a hw_a => ?_)
  have hw_a : r_a.toInt = -1 := hw_a
  refine lv_aload_n hx hb dL_law_510 rfl (lv_at hl 1 rfl) ?_
  have hPc := hP.sub (ws' := [(yh, .inr (11, [.int 0, .int 0, .int 0, .int 0, .int 0, .int 0, .int 0, .int 0, .int 0, .ref ya_isPriest, .ref ya_bars, .ref ya_joined, .ref ya_turns, .ref ya_awayMonk, .ref ya_awayFrom, .ref ya_awayTo, .ref ya_feastDay, .ref ya_rank, .ref ya_isWeekly, .ref ya_isDouble, .ref ya_giftDay, .ref ya_giftFrom, .ref ya_owed, .ref ya_said, .ref ya_spared, .ref ya_leaveGift, .ref ya_leaveFrom, .ref ya_leaveTo, .ref ya_lateDay, .ref ya_lateOffice, .ref ya_lateBy, .ref ya_guests, .ref ya_who, .ref ya_used, .ref ya_lacks, .ref ya_candles, .ref ya_masses, .ref ya_owing, .ref ya_heldOn, .ref ya_waits, .ref ya_tape, .ref ya_text, .int 0, .int 0, .int 0, .int (-1), .int 0, .ref ya_statements, .ref ya_taken, .ref ya_sort, .ref ya_first, .ref ya_second, .int 0, .int 0]))]) [1] rfl
  refine roV (As := []) (rest := [.int r_a]) S (q_fault  ) (cwV 0 hts gL_law_X12_fault rfl rfl rfl (by decide +kernel) ⟨Nat.le_of_ble_eq_true rfl, Nat.le_of_ble_eq_true rfl⟩) hK hPc (va_recv hK.1 hPc (ci := 11) (q0 := 0) rfl rfl) rfl hl.1 rfl (Nat.le_of_ble_eq_true rfl) dL_law_511 ⟨Nat.le_of_ble_eq_true rfl, Nat.le_of_ble_eq_true rfl⟩ (fun r_b_ hw_b_ => ?_)
  have hw_b_ : r_b_.toInt = -1 := hw_b_
  refine lv_icmp_eq (tgt := 917) hx hb dL_law_514 (by decide) (fun cmp => ?_) (fun cmp => ?_)
  · have tcmp := t_eq cmp
    obtain ⟨x_2, ex_2⟩ : ∃ y : Int32, y = 0 + 6 := ⟨_, rfl⟩
    obtain rfl : x_2 = 6 := by rw [ex_2]; decide
    refine lv_iinc (v := 6) (lv' := [(3, .int 6), (2, .ref yh), (1, .ref xh), (0, .ref b)]) hx hb dL_law_917 hl (k := 0) rfl (by decide) (by decide) rfl (fun ls hl => ?_)
    refine lv_goto (tgt := 18) hx hb dL_law_920 (by decide) ?_
    refine lv_iload_n hx hb dL_law_18 rfl (lv_at hl 0 rfl) ?_
    refine lv_aload_n hx hb dL_law_19 rfl (lv_at hl 3 rfl) ?_
    refine va_slen hx hb hX hbl hbA hS dL_law_20 ?_
    refine lv_topi (fun x_3 ex_3 => ?_)
    have tx_3 : x_3.toInt = L := by rw [ex_3]; exact nI_toInt (by omega)
    refine lv_bipush (v := 6) hx hb dL_law_21 (by decide) ?_
    refine lv_isub hx hb dL_law_23 ?_
    refine lv_topi (fun x_4 ex_4 => ?_)
    first | have tx_4 := t_sub ex_4 (by omega) (by omega) | skip
    refine lv_icmp_gt (tgt := 923) hx hb dL_law_24 (by decide) (fun c_5 => ?_) (fun c_5 => ?_)
    · have tc_5 := t_lt c_5
      refine lv_iconst (v := 1) hx hb dL_law_923 (by decide) ?_
      refine va_forget (fun q hq => hAs _ (hS.2.2 q hq)) ?_
      refine W.widen (k := 600000) (n := 7302250) (Nat.le_of_ble_eq_true rfl) (Nat.le_of_ble_eq_true rfl) ?_
      exact lw_ret hx hb hr hlocks dL_law_924
    · have tc_5 := t_nlt c_5
      exfalso; omega
  · have tcmp := t_neq cmp
    exact absurd (Int32.toInt_inj.mp (by omega)) cmp

set_option maxHeartbeats 8000000 in
set_option maxRecDepth 100000 in
theorem law_case11 {p : Program} {e : Env} {s : State} {m : MethodId} {below : List Frame} {meth : Method} {c : Code} {l : Launch} {b L : Nat} {xs : Nat → Int32} {D : va_G} {cI cZ cB : ClassId} {A : Nat → Prop} {xh xa_bells xa_feasts xa_tape xa_reader xa_rules xa_monks xa_duties xa_gifts xa_figures xfa_falls xfa_ranks xfa_standsOn xfa_heldOn xfa_holder xfa_standing xra_since xra_sizes xra_kinds xra_firsts xra_seconds yh ya_isPriest ya_bars ya_joined ya_turns ya_awayMonk ya_awayFrom ya_awayTo ya_feastDay ya_rank ya_isWeekly ya_isDouble ya_giftDay ya_giftFrom ya_owed ya_said ya_spared ya_leaveGift ya_leaveFrom ya_leaveTo ya_lateDay ya_lateOffice ya_lateBy ya_guests ya_who ya_used ya_lacks ya_candles ya_masses ya_owing ya_heldOn ya_waits ya_tape ya_text ya_statements ya_taken ya_sort ya_first ya_second : Nat} {xff_ranks xff_holder xrf_since xrf_sizes xrf_kinds xrf_firsts xrf_seconds yf_heldOn : Nat → Int32}  (hx : p.tables.exec = Jvm.exec) (hb : c.code = cL_law) (hr : meth.sig.returnType = ret) (hml : c.maxLocals = 4) (hown : s.vm.findClass RL = some m.cls) (hts0 : ∀ w ∈ lw_tbl, w.before #[Value.ref b] s = true) (hX : va_X b L xs s s.heap) (hbl : b < s.heap.size) (hlocks : meth.locks = false) (hK : KK D cI cZ cB s) (hA : ∀ q : Nat, s.heap.size ≤ q → A q) (hAs : ∀ q : Nat, A q → s.heap.size ≤ q) (hbA : ¬ A b) (hL : L ≤ 6) (h6 : 6 ≤ L) {H : Heap} {locs : List Loc} (hP : va_P D vwCl [(xh, .inr (10, [.ref xa_bells, .ref xa_feasts, .ref xa_tape, .ref xa_reader, .ref xa_rules, .ref xa_monks, .ref xa_duties, .ref xa_gifts, .ref xa_figures, .int 0, .int 0, .int 0, .int 0, .int (-1), .int 0])), (xa_feasts, .inr (3, [.ref xfa_falls, .ref xfa_ranks, .ref xfa_standsOn, .ref xfa_heldOn, .ref xfa_holder, .ref xfa_standing, .int 0])), (xfa_ranks, .inl (cI, 40, .inl xff_ranks)), (xfa_holder, .inl (cI, 365, .inl xff_holder)), (xa_rules, .inr (7, [.ref xra_since, .ref xra_sizes, .ref xra_kinds, .ref xra_firsts, .ref xra_seconds, .int 0])), (xra_since, .inl (cI, 10, .inl xrf_since)), (xra_sizes, .inl (cI, 10, .inl xrf_sizes)), (xra_kinds, .inl (cI, 160, .inl xrf_kinds)), (xra_firsts, .inl (cI, 160, .inl xrf_firsts)), (xra_seconds, .inl (cI, 160, .inl xrf_seconds)), (yh, .inr (11, [.int 0, .int 0, .int 0, .int 0, .int 0, .int 0, .int 0, .int 0, .int 0, .ref ya_isPriest, .ref ya_bars, .ref ya_joined, .ref ya_turns, .ref ya_awayMonk, .ref ya_awayFrom, .ref ya_awayTo, .ref ya_feastDay, .ref ya_rank, .ref ya_isWeekly, .ref ya_isDouble, .ref ya_giftDay, .ref ya_giftFrom, .ref ya_owed, .ref ya_said, .ref ya_spared, .ref ya_leaveGift, .ref ya_leaveFrom, .ref ya_leaveTo, .ref ya_lateDay, .ref ya_lateOffice, .ref ya_lateBy, .ref ya_guests, .ref ya_who, .ref ya_used, .ref ya_lacks, .ref ya_candles, .ref ya_masses, .ref ya_owing, .ref ya_heldOn, .ref ya_waits, .ref ya_tape, .ref ya_text, .int 0, .int 0, .int 0, .int (-1), .int 0, .ref ya_statements, .ref ya_taken, .ref ya_sort, .ref ya_first, .ref ya_second, .int 0, .int 0])), (ya_heldOn, .inl (cI, 365, .inl yf_heldOn))] H) (hD : va_D A [(xh, .inr (10, [.ref xa_bells, .ref xa_feasts, .ref xa_tape, .ref xa_reader, .ref xa_rules, .ref xa_monks, .ref xa_duties, .ref xa_gifts, .ref xa_figures, .int 0, .int 0, .int 0, .int 0, .int (-1), .int 0])), (xa_feasts, .inr (3, [.ref xfa_falls, .ref xfa_ranks, .ref xfa_standsOn, .ref xfa_heldOn, .ref xfa_holder, .ref xfa_standing, .int 0])), (xfa_ranks, .inl (cI, 40, .inl xff_ranks)), (xfa_holder, .inl (cI, 365, .inl xff_holder)), (xa_rules, .inr (7, [.ref xra_since, .ref xra_sizes, .ref xra_kinds, .ref xra_firsts, .ref xra_seconds, .int 0])), (xra_since, .inl (cI, 10, .inl xrf_since)), (xra_sizes, .inl (cI, 10, .inl xrf_sizes)), (xra_kinds, .inl (cI, 160, .inl xrf_kinds)), (xra_firsts, .inl (cI, 160, .inl xrf_firsts)), (xra_seconds, .inl (cI, 160, .inl xrf_seconds)), (yh, .inr (11, [.int 0, .int 0, .int 0, .int 0, .int 0, .int 0, .int 0, .int 0, .int 0, .ref ya_isPriest, .ref ya_bars, .ref ya_joined, .ref ya_turns, .ref ya_awayMonk, .ref ya_awayFrom, .ref ya_awayTo, .ref ya_feastDay, .ref ya_rank, .ref ya_isWeekly, .ref ya_isDouble, .ref ya_giftDay, .ref ya_giftFrom, .ref ya_owed, .ref ya_said, .ref ya_spared, .ref ya_leaveGift, .ref ya_leaveFrom, .ref ya_leaveTo, .ref ya_lateDay, .ref ya_lateOffice, .ref ya_lateBy, .ref ya_guests, .ref ya_who, .ref ya_used, .ref ya_lacks, .ref ya_candles, .ref ya_masses, .ref ya_owing, .ref ya_heldOn, .ref ya_waits, .ref ya_tape, .ref ya_text, .int 0, .int 0, .int 0, .int (-1), .int 0, .ref ya_statements, .ref ya_taken, .ref ya_sort, .ref ya_first, .ref ya_second, .int 0, .int 0])), (ya_heldOn, .inl (cI, 365, .inl yf_heldOn))]) (hS : va_S A s.heap H locs) (ls : Array Slot) (hl : lv_has ls 4 [(3, .int 0), (2, .ref yh), (1, .ref xh), (0, .ref b)]) : W p l e room_1 s m #[Value.ref b] below meth c H locs 90 16895 (lw_Z below #[Value.ref b] s) (F0 m 519 ls []) := by
  have hts : ∀ w ∈ wsL_law, w.before #[Value.ref b] s = true := fun w h => hts0 w (wsL_law_in w h)
  have S : CallFix p m c cL_law 4 s #[Value.ref b] wsL_law RL := ⟨hx, hb, hml, hown, hts⟩
  have kk0 : (0 : Int32).toInt = 0 := by decide
  have kk1 : (1 : Int32).toInt = 1 := by decide
  have kk2 : (2 : Int32).toInt = 2 := by decide
  have kk3 : (3 : Int32).toInt = 3 := by decide
  have kk4 : (4 : Int32).toInt = 4 := by decide
  have kk5 : (5 : Int32).toInt = 5 := by decide
  have kk6 : (6 : Int32).toInt = 6 := by decide
  have kk31 : (31 : Int32).toInt = 31 := by decide
  have kkm1 : (-1 : Int32).toInt = -1 := by decide
  refine lv_aload_n hx hb dL_law_519 rfl (lv_at hl 2 rfl) ?_
  refine lv_aload_n hx hb dL_law_520 rfl (lv_at hl 3 rfl) ?_
  refine lv_iload_n hx hb dL_law_521 rfl (lv_at hl 0 rfl) ?_
  refine lv_iconst (v := 1) hx hb dL_law_522 (by decide) ?_
  refine lv_iadd hx hb dL_law_523 ?_
  refine lv_topi (fun x_1 ex_1 => ?_)
  obtain rfl : x_1 = 1 := by rw [ex_1]; decide
  refine va_sld hx hb hX hbl hbA hS (t_in (by omega) (by omega)) dL_law_524 ?_
  refine lv_aload_n hx hb dL_law_525 rfl (lv_at hl 3 rfl) ?_
  refine lv_iload_n hx hb dL_law_526 rfl (lv_at hl 0 rfl) ?_
  refine lv_iconst (v := 2) hx hb dL_law_527 (by decide) ?_
  refine lv_iadd hx hb dL_law_528 ?_
  refine lv_topi (fun x_2 ex_2 => ?_)
  obtain rfl : x_2 = 2 := by rw [ex_2]; decide
  refine va_sld hx hb hX hbl hbA hS (t_in (by omega) (by omega)) dL_law_529 ?_
  have hPc := hP.sub (ws' := [(xh, .inr (10, [.ref xa_bells, .ref xa_feasts, .ref xa_tape, .ref xa_reader, .ref xa_rules, .ref xa_monks, .ref xa_duties, .ref xa_gifts, .ref xa_figures, .int 0, .int 0, .int 0, .int 0, .int (-1), .int 0])), (xa_feasts, .inr (3, [.ref xfa_falls, .ref xfa_ranks, .ref xfa_standsOn, .ref xfa_heldOn, .ref xfa_holder, .ref xfa_standing, .int 0])), (xfa_ranks, .inl (cI, 40, .inl xff_ranks)), (xfa_holder, .inl (cI, 365, .inl xff_holder)), (xa_rules, .inr (7, [.ref xra_since, .ref xra_sizes, .ref xra_kinds, .ref xra_firsts, .ref xra_seconds, .int 0])), (xra_since, .inl (cI, 10, .inl xrf_since)), (xra_sizes, .inl (cI, 10, .inl xrf_sizes)), (xra_kinds, .inl (cI, 160, .inl xrf_kinds)), (xra_firsts, .inl (cI, 160, .inl xrf_firsts)), (xra_seconds, .inl (cI, 160, .inl xrf_seconds))]) [0, 1, 2, 3, 4, 5, 6, 7, 8, 9] rfl
  refine roV (As := [.int (xs (1 : Int32).toNatClampNeg), .int (xs (2 : Int32).toNatClampNeg)]) (rest := []) S (p_fast  ) (cwV 2 hts gL_law_X11_fast rfl rfl rfl (by decide +kernel) ⟨Nat.le_of_ble_eq_true rfl, Nat.le_of_ble_eq_true rfl⟩) hK hPc (va_recv hK.1 hPc (ci := 10) (q0 := 0) rfl rfl) rfl hl.1 rfl (Nat.le_of_ble_eq_true rfl) dL_law_530 ⟨Nat.le_of_ble_eq_true rfl, Nat.le_of_ble_eq_true rfl⟩ (fun r_a hw_a => ?_)
  have hw_a : ((0 ≤ (xs (1 : Int32).toNatClampNeg).toInt ∧ (xs (1 : Int32).toNatClampNeg).toInt ≤ 1094) → ((xs (2 : Int32).toNatClampNeg).toInt = 0 → r_a.toInt = 0) ∧ ((xs (2 : Int32).toNatClampNeg).toInt = 1 → r_a.toInt = 2) ∧ ((xs (2 : Int32).toNatClampNeg).toInt = 2 → r_a.toInt = 3) ∧ ((xs (2 : Int32).toNatClampNeg).toInt < 0 ∨ 2 < (xs (2 : Int32).toNatClampNeg).toInt → r_a.toInt = -1)) ∧ (¬ (0 ≤ (xs (1 : Int32).toNatClampNeg).toInt ∧ (xs (1 : Int32).toNatClampNeg).toInt ≤ 1094) → r_a.toInt = -1) := hw_a
  refine lv_aload_n hx hb dL_law_533 rfl (lv_at hl 1 rfl) ?_
  refine lv_aload_n hx hb dL_law_534 rfl (lv_at hl 3 rfl) ?_
  refine lv_iload_n hx hb dL_law_535 rfl (lv_at hl 0 rfl) ?_
  refine lv_iconst (v := 1) hx hb dL_law_536 (by decide) ?_
  refine lv_iadd hx hb dL_law_537 ?_
  refine lv_topi (fun x_3 ex_3 => ?_)
  obtain rfl : x_3 = 1 := by rw [ex_3]; decide
  refine va_sld hx hb hX hbl hbA hS (t_in (by omega) (by omega)) dL_law_538 ?_
  refine lv_aload_n hx hb dL_law_539 rfl (lv_at hl 3 rfl) ?_
  refine lv_iload_n hx hb dL_law_540 rfl (lv_at hl 0 rfl) ?_
  refine lv_iconst (v := 2) hx hb dL_law_541 (by decide) ?_
  refine lv_iadd hx hb dL_law_542 ?_
  refine lv_topi (fun x_4 ex_4 => ?_)
  obtain rfl : x_4 = 2 := by rw [ex_4]; decide
  refine va_sld hx hb hX hbl hbA hS (t_in (by omega) (by omega)) dL_law_543 ?_
  have hPc := hP.sub (ws' := [(yh, .inr (11, [.int 0, .int 0, .int 0, .int 0, .int 0, .int 0, .int 0, .int 0, .int 0, .ref ya_isPriest, .ref ya_bars, .ref ya_joined, .ref ya_turns, .ref ya_awayMonk, .ref ya_awayFrom, .ref ya_awayTo, .ref ya_feastDay, .ref ya_rank, .ref ya_isWeekly, .ref ya_isDouble, .ref ya_giftDay, .ref ya_giftFrom, .ref ya_owed, .ref ya_said, .ref ya_spared, .ref ya_leaveGift, .ref ya_leaveFrom, .ref ya_leaveTo, .ref ya_lateDay, .ref ya_lateOffice, .ref ya_lateBy, .ref ya_guests, .ref ya_who, .ref ya_used, .ref ya_lacks, .ref ya_candles, .ref ya_masses, .ref ya_owing, .ref ya_heldOn, .ref ya_waits, .ref ya_tape, .ref ya_text, .int 0, .int 0, .int 0, .int (-1), .int 0, .ref ya_statements, .ref ya_taken, .ref ya_sort, .ref ya_first, .ref ya_second, .int 0, .int 0])), (ya_heldOn, .inl (cI, 365, .inl yf_heldOn))]) [10, 11] rfl
  refine rwV (As := [.int (xs (1 : Int32).toNatClampNeg), .int (xs (2 : Int32).toNatClampNeg)]) (rest := [.int r_a]) (wc := [(yh, .inr (11, [.int 0, .int 0, .int 0, .int 0, .int 0, .int 0, .int 0, .int 0, .int 0, .ref ya_isPriest, .ref ya_bars, .ref ya_joined, .ref ya_turns, .ref ya_awayMonk, .ref ya_awayFrom, .ref ya_awayTo, .ref ya_feastDay, .ref ya_rank, .ref ya_isWeekly, .ref ya_isDouble, .ref ya_giftDay, .ref ya_giftFrom, .ref ya_owed, .ref ya_said, .ref ya_spared, .ref ya_leaveGift, .ref ya_leaveFrom, .ref ya_leaveTo, .ref ya_lateDay, .ref ya_lateOffice, .ref ya_lateBy, .ref ya_guests, .ref ya_who, .ref ya_used, .ref ya_lacks, .ref ya_candles, .ref ya_masses, .ref ya_owing, .ref ya_heldOn, .ref ya_waits, .ref ya_tape, .ref ya_text, .int 0, .int 0, .int 0, .int (-1), .int 0, .ref ya_statements, .ref ya_taken, .ref ya_sort, .ref ya_first, .ref ya_second, .int 0, .int 0])), (ya_heldOn, .inl (cI, 365, .inl yf_heldOn))]) (wr := [(xh, .inr (10, [.ref xa_bells, .ref xa_feasts, .ref xa_tape, .ref xa_reader, .ref xa_rules, .ref xa_monks, .ref xa_duties, .ref xa_gifts, .ref xa_figures, .int 0, .int 0, .int 0, .int 0, .int (-1), .int 0])), (xa_feasts, .inr (3, [.ref xfa_falls, .ref xfa_ranks, .ref xfa_standsOn, .ref xfa_heldOn, .ref xfa_holder, .ref xfa_standing, .int 0])), (xfa_ranks, .inl (cI, 40, .inl xff_ranks)), (xfa_holder, .inl (cI, 365, .inl xff_holder)), (xa_rules, .inr (7, [.ref xra_since, .ref xra_sizes, .ref xra_kinds, .ref xra_firsts, .ref xra_seconds, .int 0])), (xra_since, .inl (cI, 10, .inl xrf_since)), (xra_sizes, .inl (cI, 10, .inl xrf_sizes)), (xra_kinds, .inl (cI, 160, .inl xrf_kinds)), (xra_firsts, .inl (cI, 160, .inl xrf_firsts)), (xra_seconds, .inl (cI, 160, .inl xrf_seconds))]) S (q_fast  ) (cwV 2 hts gL_law_X12_fast rfl rfl rfl (by decide +kernel) ⟨Nat.le_of_ble_eq_true rfl, Nat.le_of_ble_eq_true rfl⟩) hK hP hD hS hA [10, 11] [0, 1, 2, 3, 4, 5, 6, 7, 8, 9] rfl rfl (by decide) (by decide) (by decide) (va_recv hK.1 hPc (ci := 11) (q0 := 0) rfl rfl) rfl hl.1 rfl (Nat.le_of_ble_eq_true rfl) dL_law_544 ⟨Nat.le_of_ble_eq_true rfl, Nat.le_of_ble_eq_true rfl⟩ (fun r_b_ u_b_ H locs hw_b_ hP hD hS => ?_)
  obtain ⟨g1_b_, rfl⟩ : ∃ z, z = u_b_ := ⟨_, rfl⟩
  have hw_b_ : ((0 ≤ (xs (1 : Int32).toNatClampNeg).toInt ∧ (xs (1 : Int32).toNatClampNeg).toInt ≤ 1094) → ((xs (2 : Int32).toNatClampNeg).toInt = 0 → r_b_.toInt = 0) ∧ ((xs (2 : Int32).toNatClampNeg).toInt = 1 → r_b_.toInt = 2) ∧ ((xs (2 : Int32).toNatClampNeg).toInt = 2 → r_b_.toInt = 3) ∧ ((xs (2 : Int32).toNatClampNeg).toInt < 0 ∨ 2 < (xs (2 : Int32).toNatClampNeg).toInt → r_b_.toInt = -1)) ∧ (¬ (0 ≤ (xs (1 : Int32).toNatClampNeg).toInt ∧ (xs (1 : Int32).toNatClampNeg).toInt ≤ 1094) → r_b_.toInt = -1) := hw_b_
  have hP : va_P D vwCl [(xh, .inr (10, [.ref xa_bells, .ref xa_feasts, .ref xa_tape, .ref xa_reader, .ref xa_rules, .ref xa_monks, .ref xa_duties, .ref xa_gifts, .ref xa_figures, .int 0, .int 0, .int 0, .int 0, .int (-1), .int 0])), (xa_feasts, .inr (3, [.ref xfa_falls, .ref xfa_ranks, .ref xfa_standsOn, .ref xfa_heldOn, .ref xfa_holder, .ref xfa_standing, .int 0])), (xfa_ranks, .inl (cI, 40, .inl xff_ranks)), (xfa_holder, .inl (cI, 365, .inl xff_holder)), (xa_rules, .inr (7, [.ref xra_since, .ref xra_sizes, .ref xra_kinds, .ref xra_firsts, .ref xra_seconds, .int 0])), (xra_since, .inl (cI, 10, .inl xrf_since)), (xra_sizes, .inl (cI, 10, .inl xrf_sizes)), (xra_kinds, .inl (cI, 160, .inl xrf_kinds)), (xra_firsts, .inl (cI, 160, .inl xrf_firsts)), (xra_seconds, .inl (cI, 160, .inl xrf_seconds)), (yh, .inr (11, [.int 0, .int 0, .int 0, .int 0, .int 0, .int 0, .int 0, .int 0, .int 0, .ref ya_isPriest, .ref ya_bars, .ref ya_joined, .ref ya_turns, .ref ya_awayMonk, .ref ya_awayFrom, .ref ya_awayTo, .ref ya_feastDay, .ref ya_rank, .ref ya_isWeekly, .ref ya_isDouble, .ref ya_giftDay, .ref ya_giftFrom, .ref ya_owed, .ref ya_said, .ref ya_spared, .ref ya_leaveGift, .ref ya_leaveFrom, .ref ya_leaveTo, .ref ya_lateDay, .ref ya_lateOffice, .ref ya_lateBy, .ref ya_guests, .ref ya_who, .ref ya_used, .ref ya_lacks, .ref ya_candles, .ref ya_masses, .ref ya_owing, .ref ya_heldOn, .ref ya_waits, .ref ya_tape, .ref ya_text, .int 0, .int 0, .int 0, .int (-1), .int 0, .ref ya_statements, .ref ya_taken, .ref ya_sort, .ref ya_first, .ref ya_second, .int 0, .int 0])), (ya_heldOn, .inl (cI, 365, .inl g1_b_))] H := hP
  have hD : va_D A [(xh, .inr (10, [.ref xa_bells, .ref xa_feasts, .ref xa_tape, .ref xa_reader, .ref xa_rules, .ref xa_monks, .ref xa_duties, .ref xa_gifts, .ref xa_figures, .int 0, .int 0, .int 0, .int 0, .int (-1), .int 0])), (xa_feasts, .inr (3, [.ref xfa_falls, .ref xfa_ranks, .ref xfa_standsOn, .ref xfa_heldOn, .ref xfa_holder, .ref xfa_standing, .int 0])), (xfa_ranks, .inl (cI, 40, .inl xff_ranks)), (xfa_holder, .inl (cI, 365, .inl xff_holder)), (xa_rules, .inr (7, [.ref xra_since, .ref xra_sizes, .ref xra_kinds, .ref xra_firsts, .ref xra_seconds, .int 0])), (xra_since, .inl (cI, 10, .inl xrf_since)), (xra_sizes, .inl (cI, 10, .inl xrf_sizes)), (xra_kinds, .inl (cI, 160, .inl xrf_kinds)), (xra_firsts, .inl (cI, 160, .inl xrf_firsts)), (xra_seconds, .inl (cI, 160, .inl xrf_seconds)), (yh, .inr (11, [.int 0, .int 0, .int 0, .int 0, .int 0, .int 0, .int 0, .int 0, .int 0, .ref ya_isPriest, .ref ya_bars, .ref ya_joined, .ref ya_turns, .ref ya_awayMonk, .ref ya_awayFrom, .ref ya_awayTo, .ref ya_feastDay, .ref ya_rank, .ref ya_isWeekly, .ref ya_isDouble, .ref ya_giftDay, .ref ya_giftFrom, .ref ya_owed, .ref ya_said, .ref ya_spared, .ref ya_leaveGift, .ref ya_leaveFrom, .ref ya_leaveTo, .ref ya_lateDay, .ref ya_lateOffice, .ref ya_lateBy, .ref ya_guests, .ref ya_who, .ref ya_used, .ref ya_lacks, .ref ya_candles, .ref ya_masses, .ref ya_owing, .ref ya_heldOn, .ref ya_waits, .ref ya_tape, .ref ya_text, .int 0, .int 0, .int 0, .int (-1), .int 0, .ref ya_statements, .ref ya_taken, .ref ya_sort, .ref ya_first, .ref ya_second, .int 0, .int 0])), (ya_heldOn, .inl (cI, 365, .inl g1_b_))] := hD
  refine lv_icmp_eq (tgt := 917) hx hb dL_law_547 (by decide) (fun cmp => ?_) (fun cmp => ?_)
  · have tcmp := t_eq cmp
    obtain ⟨x_6, ex_6⟩ : ∃ y : Int32, y = 0 + 6 := ⟨_, rfl⟩
    obtain rfl : x_6 = 6 := by rw [ex_6]; decide
    refine lv_iinc (v := 6) (lv' := [(3, .int 6), (2, .ref yh), (1, .ref xh), (0, .ref b)]) hx hb dL_law_917 hl (k := 0) rfl (by decide) (by decide) rfl (fun ls hl => ?_)
    refine lv_goto (tgt := 18) hx hb dL_law_920 (by decide) ?_
    refine lv_iload_n hx hb dL_law_18 rfl (lv_at hl 0 rfl) ?_
    refine lv_aload_n hx hb dL_law_19 rfl (lv_at hl 3 rfl) ?_
    refine va_slen hx hb hX hbl hbA hS dL_law_20 ?_
    refine lv_topi (fun x_7 ex_7 => ?_)
    have tx_7 : x_7.toInt = L := by rw [ex_7]; exact nI_toInt (by omega)
    refine lv_bipush (v := 6) hx hb dL_law_21 (by decide) ?_
    refine lv_isub hx hb dL_law_23 ?_
    refine lv_topi (fun x_8 ex_8 => ?_)
    first | have tx_8 := t_sub ex_8 (by omega) (by omega) | skip
    refine lv_icmp_gt (tgt := 923) hx hb dL_law_24 (by decide) (fun c_9 => ?_) (fun c_9 => ?_)
    · have tc_9 := t_lt c_9
      refine lv_iconst (v := 1) hx hb dL_law_923 (by decide) ?_
      refine va_forget (fun q hq => hAs _ (hS.2.2 q hq)) ?_
      refine W.widen (k := 600000) (n := 7302250) (Nat.le_of_ble_eq_true rfl) (Nat.le_of_ble_eq_true rfl) ?_
      exact lw_ret hx hb hr hlocks dL_law_924
    · have tc_9 := t_nlt c_9
      exfalso; omega
  · have tcmp := t_neq cmp
    exact absurd (Int32.toInt_inj.mp (by omega)) cmp

set_option maxHeartbeats 8000000 in
set_option maxRecDepth 100000 in
theorem law_case12 {p : Program} {e : Env} {s : State} {m : MethodId} {below : List Frame} {meth : Method} {c : Code} {l : Launch} {b L : Nat} {xs : Nat → Int32} {D : va_G} {cI cZ cB : ClassId} {A : Nat → Prop} {xh xa_bells xa_feasts xa_tape xa_reader xa_rules xa_monks xa_duties xa_gifts xa_figures xga_weekly xga_doubled xga_dueOn xga_owed xga_said xga_spared xga_leaveOf xga_leaveFrom xga_leaveTo yh ya_isPriest ya_bars ya_joined ya_turns ya_awayMonk ya_awayFrom ya_awayTo ya_feastDay ya_rank ya_isWeekly ya_isDouble ya_giftDay ya_giftFrom ya_owed ya_said ya_spared ya_leaveGift ya_leaveFrom ya_leaveTo ya_lateDay ya_lateOffice ya_lateBy ya_guests ya_who ya_used ya_lacks ya_candles ya_masses ya_owing ya_heldOn ya_waits ya_tape ya_text ya_statements ya_taken ya_sort ya_first ya_second : Nat} {xgf_weekly xgf_doubled xgf_dueOn yf_isWeekly yf_isDouble yf_giftDay yf_giftFrom : Nat → Int32}  (hx : p.tables.exec = Jvm.exec) (hb : c.code = cL_law) (hr : meth.sig.returnType = ret) (hml : c.maxLocals = 4) (hown : s.vm.findClass RL = some m.cls) (hts0 : ∀ w ∈ lw_tbl, w.before #[Value.ref b] s = true) (hX : va_X b L xs s s.heap) (hbl : b < s.heap.size) (hlocks : meth.locks = false) (hK : KK D cI cZ cB s) (hA : ∀ q : Nat, s.heap.size ≤ q → A q) (hAs : ∀ q : Nat, A q → s.heap.size ≤ q) (hbA : ¬ A b) (hL : L ≤ 6) (h6 : 6 ≤ L) {H : Heap} {locs : List Loc} (hP : va_P D vwCl [(xh, .inr (10, [.ref xa_bells, .ref xa_feasts, .ref xa_tape, .ref xa_reader, .ref xa_rules, .ref xa_monks, .ref xa_duties, .ref xa_gifts, .ref xa_figures, .int 0, .int 0, .int 0, .int 0, .int (-1), .int 0])), (xa_gifts, .inr (4, [.ref xga_weekly, .ref xga_doubled, .ref xga_dueOn, .ref xga_owed, .ref xga_said, .ref xga_spared, .ref xga_leaveOf, .ref xga_leaveFrom, .ref xga_leaveTo, .int 0, .int 0])), (xga_weekly, .inl (cZ, 40, .inl xgf_weekly)), (xga_doubled, .inl (cZ, 40, .inl xgf_doubled)), (xga_dueOn, .inl (cI, 40, .inl xgf_dueOn)), (yh, .inr (11, [.int 0, .int 0, .int 0, .int 0, .int 0, .int 0, .int 0, .int 0, .int 0, .ref ya_isPriest, .ref ya_bars, .ref ya_joined, .ref ya_turns, .ref ya_awayMonk, .ref ya_awayFrom, .ref ya_awayTo, .ref ya_feastDay, .ref ya_rank, .ref ya_isWeekly, .ref ya_isDouble, .ref ya_giftDay, .ref ya_giftFrom, .ref ya_owed, .ref ya_said, .ref ya_spared, .ref ya_leaveGift, .ref ya_leaveFrom, .ref ya_leaveTo, .ref ya_lateDay, .ref ya_lateOffice, .ref ya_lateBy, .ref ya_guests, .ref ya_who, .ref ya_used, .ref ya_lacks, .ref ya_candles, .ref ya_masses, .ref ya_owing, .ref ya_heldOn, .ref ya_waits, .ref ya_tape, .ref ya_text, .int 0, .int 0, .int 0, .int (-1), .int 0, .ref ya_statements, .ref ya_taken, .ref ya_sort, .ref ya_first, .ref ya_second, .int 0, .int 0])), (ya_isWeekly, .inl (cZ, 40, .inl yf_isWeekly)), (ya_isDouble, .inl (cZ, 40, .inl yf_isDouble)), (ya_giftDay, .inl (cI, 40, .inl yf_giftDay)), (ya_giftFrom, .inl (cI, 40, .inl yf_giftFrom))] H) (hD : va_D A [(xh, .inr (10, [.ref xa_bells, .ref xa_feasts, .ref xa_tape, .ref xa_reader, .ref xa_rules, .ref xa_monks, .ref xa_duties, .ref xa_gifts, .ref xa_figures, .int 0, .int 0, .int 0, .int 0, .int (-1), .int 0])), (xa_gifts, .inr (4, [.ref xga_weekly, .ref xga_doubled, .ref xga_dueOn, .ref xga_owed, .ref xga_said, .ref xga_spared, .ref xga_leaveOf, .ref xga_leaveFrom, .ref xga_leaveTo, .int 0, .int 0])), (xga_weekly, .inl (cZ, 40, .inl xgf_weekly)), (xga_doubled, .inl (cZ, 40, .inl xgf_doubled)), (xga_dueOn, .inl (cI, 40, .inl xgf_dueOn)), (yh, .inr (11, [.int 0, .int 0, .int 0, .int 0, .int 0, .int 0, .int 0, .int 0, .int 0, .ref ya_isPriest, .ref ya_bars, .ref ya_joined, .ref ya_turns, .ref ya_awayMonk, .ref ya_awayFrom, .ref ya_awayTo, .ref ya_feastDay, .ref ya_rank, .ref ya_isWeekly, .ref ya_isDouble, .ref ya_giftDay, .ref ya_giftFrom, .ref ya_owed, .ref ya_said, .ref ya_spared, .ref ya_leaveGift, .ref ya_leaveFrom, .ref ya_leaveTo, .ref ya_lateDay, .ref ya_lateOffice, .ref ya_lateBy, .ref ya_guests, .ref ya_who, .ref ya_used, .ref ya_lacks, .ref ya_candles, .ref ya_masses, .ref ya_owing, .ref ya_heldOn, .ref ya_waits, .ref ya_tape, .ref ya_text, .int 0, .int 0, .int 0, .int (-1), .int 0, .ref ya_statements, .ref ya_taken, .ref ya_sort, .ref ya_first, .ref ya_second, .int 0, .int 0])), (ya_isWeekly, .inl (cZ, 40, .inl yf_isWeekly)), (ya_isDouble, .inl (cZ, 40, .inl yf_isDouble)), (ya_giftDay, .inl (cI, 40, .inl yf_giftDay)), (ya_giftFrom, .inl (cI, 40, .inl yf_giftFrom))]) (hS : va_S A s.heap H locs) (ls : Array Slot) (hl : lv_has ls 4 [(3, .int 0), (2, .ref yh), (1, .ref xh), (0, .ref b)]) : W p l e room_1 s m #[Value.ref b] below meth c H locs 90 16895 (lw_Z below #[Value.ref b] s) (F0 m 552 ls []) := by
  have hts : ∀ w ∈ wsL_law, w.before #[Value.ref b] s = true := fun w h => hts0 w (wsL_law_in w h)
  have S : CallFix p m c cL_law 4 s #[Value.ref b] wsL_law RL := ⟨hx, hb, hml, hown, hts⟩
  have kk0 : (0 : Int32).toInt = 0 := by decide
  have kk1 : (1 : Int32).toInt = 1 := by decide
  have kk2 : (2 : Int32).toInt = 2 := by decide
  have kk3 : (3 : Int32).toInt = 3 := by decide
  have kk4 : (4 : Int32).toInt = 4 := by decide
  have kk5 : (5 : Int32).toInt = 5 := by decide
  have kk6 : (6 : Int32).toInt = 6 := by decide
  have kk31 : (31 : Int32).toInt = 31 := by decide
  have kkm1 : (-1 : Int32).toInt = -1 := by decide
  refine lv_aload_n hx hb dL_law_552 rfl (lv_at hl 2 rfl) ?_
  refine lv_aload_n hx hb dL_law_553 rfl (lv_at hl 3 rfl) ?_
  refine lv_iload_n hx hb dL_law_554 rfl (lv_at hl 0 rfl) ?_
  refine lv_iconst (v := 1) hx hb dL_law_555 (by decide) ?_
  refine lv_iadd hx hb dL_law_556 ?_
  refine lv_topi (fun x_1 ex_1 => ?_)
  obtain rfl : x_1 = 1 := by rw [ex_1]; decide
  refine va_sld hx hb hX hbl hbA hS (t_in (by omega) (by omega)) dL_law_557 ?_
  refine lv_if_eq (tgt := 565) hx hb dL_law_558 (by decide) (fun c_2 => ?_) (fun c_2 => ?_)
  · have tc_2 := t_eq c_2
    refine lv_iconst (v := 0) hx hb dL_law_565 (by decide) ?_
    refine lv_aload_n hx hb dL_law_566 rfl (lv_at hl 3 rfl) ?_
    refine lv_iload_n hx hb dL_law_567 rfl (lv_at hl 0 rfl) ?_
    refine lv_iconst (v := 2) hx hb dL_law_568 (by decide) ?_
    refine lv_iadd hx hb dL_law_569 ?_
    refine lv_topi (fun x_3 ex_3 => ?_)
    obtain rfl : x_3 = 2 := by rw [ex_3]; decide
    refine va_sld hx hb hX hbl hbA hS (t_in (by omega) (by omega)) dL_law_570 ?_
    refine lv_aload_n hx hb dL_law_571 rfl (lv_at hl 3 rfl) ?_
    refine lv_iload_n hx hb dL_law_572 rfl (lv_at hl 0 rfl) ?_
    refine lv_iconst (v := 3) hx hb dL_law_573 (by decide) ?_
    refine lv_iadd hx hb dL_law_574 ?_
    refine lv_topi (fun x_4 ex_4 => ?_)
    obtain rfl : x_4 = 3 := by rw [ex_4]; decide
    refine va_sld hx hb hX hbl hbA hS (t_in (by omega) (by omega)) dL_law_575 ?_
    refine lv_if_eq (tgt := 583) hx hb dL_law_576 (by decide) (fun c_5 => ?_) (fun c_5 => ?_)
    · have tc_5 := t_eq c_5
      refine lv_iconst (v := 0) hx hb dL_law_583 (by decide) ?_
      have hPc := hP.sub (ws' := [(xh, .inr (10, [.ref xa_bells, .ref xa_feasts, .ref xa_tape, .ref xa_reader, .ref xa_rules, .ref xa_monks, .ref xa_duties, .ref xa_gifts, .ref xa_figures, .int 0, .int 0, .int 0, .int 0, .int (-1), .int 0])), (xa_gifts, .inr (4, [.ref xga_weekly, .ref xga_doubled, .ref xga_dueOn, .ref xga_owed, .ref xga_said, .ref xga_spared, .ref xga_leaveOf, .ref xga_leaveFrom, .ref xga_leaveTo, .int 0, .int 0])), (xga_weekly, .inl (cZ, 40, .inl xgf_weekly)), (xga_doubled, .inl (cZ, 40, .inl xgf_doubled)), (xga_dueOn, .inl (cI, 40, .inl xgf_dueOn))]) [0, 1, 2, 3, 4] rfl
      refine rwV (As := [.int 0, .int (xs (2 : Int32).toNatClampNeg), .int 0]) (rest := []) (wc := [(xh, .inr (10, [.ref xa_bells, .ref xa_feasts, .ref xa_tape, .ref xa_reader, .ref xa_rules, .ref xa_monks, .ref xa_duties, .ref xa_gifts, .ref xa_figures, .int 0, .int 0, .int 0, .int 0, .int (-1), .int 0])), (xa_gifts, .inr (4, [.ref xga_weekly, .ref xga_doubled, .ref xga_dueOn, .ref xga_owed, .ref xga_said, .ref xga_spared, .ref xga_leaveOf, .ref xga_leaveFrom, .ref xga_leaveTo, .int 0, .int 0])), (xga_weekly, .inl (cZ, 40, .inl xgf_weekly)), (xga_doubled, .inl (cZ, 40, .inl xgf_doubled)), (xga_dueOn, .inl (cI, 40, .inl xgf_dueOn))]) (wr := [(yh, .inr (11, [.int 0, .int 0, .int 0, .int 0, .int 0, .int 0, .int 0, .int 0, .int 0, .ref ya_isPriest, .ref ya_bars, .ref ya_joined, .ref ya_turns, .ref ya_awayMonk, .ref ya_awayFrom, .ref ya_awayTo, .ref ya_feastDay, .ref ya_rank, .ref ya_isWeekly, .ref ya_isDouble, .ref ya_giftDay, .ref ya_giftFrom, .ref ya_owed, .ref ya_said, .ref ya_spared, .ref ya_leaveGift, .ref ya_leaveFrom, .ref ya_leaveTo, .ref ya_lateDay, .ref ya_lateOffice, .ref ya_lateBy, .ref ya_guests, .ref ya_who, .ref ya_used, .ref ya_lacks, .ref ya_candles, .ref ya_masses, .ref ya_owing, .ref ya_heldOn, .ref ya_waits, .ref ya_tape, .ref ya_text, .int 0, .int 0, .int 0, .int (-1), .int 0, .ref ya_statements, .ref ya_taken, .ref ya_sort, .ref ya_first, .ref ya_second, .int 0, .int 0])), (ya_isWeekly, .inl (cZ, 40, .inl yf_isWeekly)), (ya_isDouble, .inl (cZ, 40, .inl yf_isDouble)), (ya_giftDay, .inl (cI, 40, .inl yf_giftDay)), (ya_giftFrom, .inl (cI, 40, .inl yf_giftFrom))]) S (p_gift  ) (cwV 3 hts gL_law_X11_gift rfl rfl rfl (by decide +kernel) ⟨Nat.le_of_ble_eq_true rfl, Nat.le_of_ble_eq_true rfl⟩) hK hP hD hS hA [0, 1, 2, 3, 4] [5, 6, 7, 8, 9] rfl rfl (by decide) (by decide) (by decide) (va_recv hK.1 hPc (ci := 10) (q0 := 0) rfl rfl) rfl hl.1 rfl (Nat.le_of_ble_eq_true rfl) dL_law_584 ⟨Nat.le_of_ble_eq_true rfl, Nat.le_of_ble_eq_true rfl⟩ (fun r_a u_a H locs hw_a hP hD hS => ?_)
      obtain ⟨n1_a, f1_a, f2_a, f3_a⟩ := u_a
      have hw_a : ((((0 : Int32).toInt ≠ 0 ∧ 0 ≤ (xs (2 : Int32).toNatClampNeg).toInt ∧ (xs (2 : Int32).toNatClampNeg).toInt ≤ 6) ∨ ((0 : Int32).toInt = 0 ∧ 0 ≤ (xs (2 : Int32).toNatClampNeg).toInt ∧ (xs (2 : Int32).toNatClampNeg).toInt ≤ 364)) → r_a.toInt = 0) ∧ (¬ (((0 : Int32).toInt ≠ 0 ∧ 0 ≤ (xs (2 : Int32).toNatClampNeg).toInt ∧ (xs (2 : Int32).toNatClampNeg).toInt ≤ 6) ∨ ((0 : Int32).toInt = 0 ∧ 0 ≤ (xs (2 : Int32).toNatClampNeg).toInt ∧ (xs (2 : Int32).toNatClampNeg).toInt ≤ 364)) → r_a.toInt = -1) := hw_a
      have hP : va_P D vwCl [(yh, .inr (11, [.int 0, .int 0, .int 0, .int 0, .int 0, .int 0, .int 0, .int 0, .int 0, .ref ya_isPriest, .ref ya_bars, .ref ya_joined, .ref ya_turns, .ref ya_awayMonk, .ref ya_awayFrom, .ref ya_awayTo, .ref ya_feastDay, .ref ya_rank, .ref ya_isWeekly, .ref ya_isDouble, .ref ya_giftDay, .ref ya_giftFrom, .ref ya_owed, .ref ya_said, .ref ya_spared, .ref ya_leaveGift, .ref ya_leaveFrom, .ref ya_leaveTo, .ref ya_lateDay, .ref ya_lateOffice, .ref ya_lateBy, .ref ya_guests, .ref ya_who, .ref ya_used, .ref ya_lacks, .ref ya_candles, .ref ya_masses, .ref ya_owing, .ref ya_heldOn, .ref ya_waits, .ref ya_tape, .ref ya_text, .int 0, .int 0, .int 0, .int (-1), .int 0, .ref ya_statements, .ref ya_taken, .ref ya_sort, .ref ya_first, .ref ya_second, .int 0, .int 0])), (ya_isWeekly, .inl (cZ, 40, .inl yf_isWeekly)), (ya_isDouble, .inl (cZ, 40, .inl yf_isDouble)), (ya_giftDay, .inl (cI, 40, .inl yf_giftDay)), (ya_giftFrom, .inl (cI, 40, .inl yf_giftFrom)), (xh, .inr (10, [.ref xa_bells, .ref xa_feasts, .ref xa_tape, .ref xa_reader, .ref xa_rules, .ref xa_monks, .ref xa_duties, .ref xa_gifts, .ref xa_figures, .int 0, .int 0, .int 0, .int 0, .int (-1), .int 0])), (xa_gifts, .inr (4, [.ref xga_weekly, .ref xga_doubled, .ref xga_dueOn, .ref xga_owed, .ref xga_said, .ref xga_spared, .ref xga_leaveOf, .ref xga_leaveFrom, .ref xga_leaveTo, .int n1_a, .int 0])), (xga_weekly, .inl (cZ, 40, .inl f1_a)), (xga_doubled, .inl (cZ, 40, .inl f2_a)), (xga_dueOn, .inl (cI, 40, .inl f3_a))] H := hP
      have hD : va_D A [(yh, .inr (11, [.int 0, .int 0, .int 0, .int 0, .int 0, .int 0, .int 0, .int 0, .int 0, .ref ya_isPriest, .ref ya_bars, .ref ya_joined, .ref ya_turns, .ref ya_awayMonk, .ref ya_awayFrom, .ref ya_awayTo, .ref ya_feastDay, .ref ya_rank, .ref ya_isWeekly, .ref ya_isDouble, .ref ya_giftDay, .ref ya_giftFrom, .ref ya_owed, .ref ya_said, .ref ya_spared, .ref ya_leaveGift, .ref ya_leaveFrom, .ref ya_leaveTo, .ref ya_lateDay, .ref ya_lateOffice, .ref ya_lateBy, .ref ya_guests, .ref ya_who, .ref ya_used, .ref ya_lacks, .ref ya_candles, .ref ya_masses, .ref ya_owing, .ref ya_heldOn, .ref ya_waits, .ref ya_tape, .ref ya_text, .int 0, .int 0, .int 0, .int (-1), .int 0, .ref ya_statements, .ref ya_taken, .ref ya_sort, .ref ya_first, .ref ya_second, .int 0, .int 0])), (ya_isWeekly, .inl (cZ, 40, .inl yf_isWeekly)), (ya_isDouble, .inl (cZ, 40, .inl yf_isDouble)), (ya_giftDay, .inl (cI, 40, .inl yf_giftDay)), (ya_giftFrom, .inl (cI, 40, .inl yf_giftFrom)), (xh, .inr (10, [.ref xa_bells, .ref xa_feasts, .ref xa_tape, .ref xa_reader, .ref xa_rules, .ref xa_monks, .ref xa_duties, .ref xa_gifts, .ref xa_figures, .int 0, .int 0, .int 0, .int 0, .int (-1), .int 0])), (xa_gifts, .inr (4, [.ref xga_weekly, .ref xga_doubled, .ref xga_dueOn, .ref xga_owed, .ref xga_said, .ref xga_spared, .ref xga_leaveOf, .ref xga_leaveFrom, .ref xga_leaveTo, .int n1_a, .int 0])), (xga_weekly, .inl (cZ, 40, .inl f1_a)), (xga_doubled, .inl (cZ, 40, .inl f2_a)), (xga_dueOn, .inl (cI, 40, .inl f3_a))] := hD
      refine lv_aload_n hx hb dL_law_587 rfl (lv_at hl 1 rfl) ?_
      refine lv_aload_n hx hb dL_law_588 rfl (lv_at hl 3 rfl) ?_
      refine lv_iload_n hx hb dL_law_589 rfl (lv_at hl 0 rfl) ?_
      refine lv_iconst (v := 1) hx hb dL_law_590 (by decide) ?_
      refine lv_iadd hx hb dL_law_591 ?_
      refine lv_topi (fun x_6 ex_6 => ?_)
      obtain rfl : x_6 = 1 := by rw [ex_6]; decide
      refine va_sld hx hb hX hbl hbA hS (t_in (by omega) (by omega)) dL_law_592 ?_
      refine lv_if_eq (tgt := 600) hx hb dL_law_593 (by decide) (fun c_7 => ?_) (fun c_7 => ?_)
      · have tc_7 := t_eq c_7
        refine lv_iconst (v := 0) hx hb dL_law_600 (by decide) ?_
        refine lv_aload_n hx hb dL_law_601 rfl (lv_at hl 3 rfl) ?_
        refine lv_iload_n hx hb dL_law_602 rfl (lv_at hl 0 rfl) ?_
        refine lv_iconst (v := 2) hx hb dL_law_603 (by decide) ?_
        refine lv_iadd hx hb dL_law_604 ?_
        refine lv_topi (fun x_8 ex_8 => ?_)
        obtain rfl : x_8 = 2 := by rw [ex_8]; decide
        refine va_sld hx hb hX hbl hbA hS (t_in (by omega) (by omega)) dL_law_605 ?_
        refine lv_aload_n hx hb dL_law_606 rfl (lv_at hl 3 rfl) ?_
        refine lv_iload_n hx hb dL_law_607 rfl (lv_at hl 0 rfl) ?_
        refine lv_iconst (v := 3) hx hb dL_law_608 (by decide) ?_
        refine lv_iadd hx hb dL_law_609 ?_
        refine lv_topi (fun x_9 ex_9 => ?_)
        obtain rfl : x_9 = 3 := by rw [ex_9]; decide
        refine va_sld hx hb hX hbl hbA hS (t_in (by omega) (by omega)) dL_law_610 ?_
        refine lv_if_eq (tgt := 618) hx hb dL_law_611 (by decide) (fun c_10 => ?_) (fun c_10 => ?_)
        · have tc_10 := t_eq c_10
          refine lv_iconst (v := 0) hx hb dL_law_618 (by decide) ?_
          have hPc := hP.sub (ws' := [(yh, .inr (11, [.int 0, .int 0, .int 0, .int 0, .int 0, .int 0, .int 0, .int 0, .int 0, .ref ya_isPriest, .ref ya_bars, .ref ya_joined, .ref ya_turns, .ref ya_awayMonk, .ref ya_awayFrom, .ref ya_awayTo, .ref ya_feastDay, .ref ya_rank, .ref ya_isWeekly, .ref ya_isDouble, .ref ya_giftDay, .ref ya_giftFrom, .ref ya_owed, .ref ya_said, .ref ya_spared, .ref ya_leaveGift, .ref ya_leaveFrom, .ref ya_leaveTo, .ref ya_lateDay, .ref ya_lateOffice, .ref ya_lateBy, .ref ya_guests, .ref ya_who, .ref ya_used, .ref ya_lacks, .ref ya_candles, .ref ya_masses, .ref ya_owing, .ref ya_heldOn, .ref ya_waits, .ref ya_tape, .ref ya_text, .int 0, .int 0, .int 0, .int (-1), .int 0, .ref ya_statements, .ref ya_taken, .ref ya_sort, .ref ya_first, .ref ya_second, .int 0, .int 0])), (ya_isWeekly, .inl (cZ, 40, .inl yf_isWeekly)), (ya_isDouble, .inl (cZ, 40, .inl yf_isDouble)), (ya_giftDay, .inl (cI, 40, .inl yf_giftDay)), (ya_giftFrom, .inl (cI, 40, .inl yf_giftFrom))]) [0, 1, 2, 3, 4] rfl
          refine rwV (As := [.int 0, .int (xs (2 : Int32).toNatClampNeg), .int 0]) (rest := [.int r_a]) (wc := [(yh, .inr (11, [.int 0, .int 0, .int 0, .int 0, .int 0, .int 0, .int 0, .int 0, .int 0, .ref ya_isPriest, .ref ya_bars, .ref ya_joined, .ref ya_turns, .ref ya_awayMonk, .ref ya_awayFrom, .ref ya_awayTo, .ref ya_feastDay, .ref ya_rank, .ref ya_isWeekly, .ref ya_isDouble, .ref ya_giftDay, .ref ya_giftFrom, .ref ya_owed, .ref ya_said, .ref ya_spared, .ref ya_leaveGift, .ref ya_leaveFrom, .ref ya_leaveTo, .ref ya_lateDay, .ref ya_lateOffice, .ref ya_lateBy, .ref ya_guests, .ref ya_who, .ref ya_used, .ref ya_lacks, .ref ya_candles, .ref ya_masses, .ref ya_owing, .ref ya_heldOn, .ref ya_waits, .ref ya_tape, .ref ya_text, .int 0, .int 0, .int 0, .int (-1), .int 0, .ref ya_statements, .ref ya_taken, .ref ya_sort, .ref ya_first, .ref ya_second, .int 0, .int 0])), (ya_isWeekly, .inl (cZ, 40, .inl yf_isWeekly)), (ya_isDouble, .inl (cZ, 40, .inl yf_isDouble)), (ya_giftDay, .inl (cI, 40, .inl yf_giftDay)), (ya_giftFrom, .inl (cI, 40, .inl yf_giftFrom))]) (wr := [(xh, .inr (10, [.ref xa_bells, .ref xa_feasts, .ref xa_tape, .ref xa_reader, .ref xa_rules, .ref xa_monks, .ref xa_duties, .ref xa_gifts, .ref xa_figures, .int 0, .int 0, .int 0, .int 0, .int (-1), .int 0])), (xa_gifts, .inr (4, [.ref xga_weekly, .ref xga_doubled, .ref xga_dueOn, .ref xga_owed, .ref xga_said, .ref xga_spared, .ref xga_leaveOf, .ref xga_leaveFrom, .ref xga_leaveTo, .int n1_a, .int 0])), (xga_weekly, .inl (cZ, 40, .inl f1_a)), (xga_doubled, .inl (cZ, 40, .inl f2_a)), (xga_dueOn, .inl (cI, 40, .inl f3_a))]) S (q_gift  ) (cwV 3 hts gL_law_X12_gift rfl rfl rfl (by decide +kernel) ⟨Nat.le_of_ble_eq_true rfl, Nat.le_of_ble_eq_true rfl⟩) hK hP hD hS hA [0, 1, 2, 3, 4] [5, 6, 7, 8, 9] rfl rfl (by decide) (by decide) (by decide) (va_recv hK.1 hPc (ci := 11) (q0 := 0) rfl rfl) rfl hl.1 rfl (Nat.le_of_ble_eq_true rfl) dL_law_619 ⟨Nat.le_of_ble_eq_true rfl, Nat.le_of_ble_eq_true rfl⟩ (fun r_b_ u_b_ H locs hw_b_ hP hD hS => ?_)
          obtain ⟨n1_b_, f1_b_, f2_b_, f3_b_, f4_b_⟩ := u_b_
          have hw_b_ : ((((0 : Int32).toInt ≠ 0 ∧ 0 ≤ (xs (2 : Int32).toNatClampNeg).toInt ∧ (xs (2 : Int32).toNatClampNeg).toInt ≤ 6) ∨ ((0 : Int32).toInt = 0 ∧ 0 ≤ (xs (2 : Int32).toNatClampNeg).toInt ∧ (xs (2 : Int32).toNatClampNeg).toInt ≤ 364)) → r_b_.toInt = 0) ∧ (¬ (((0 : Int32).toInt ≠ 0 ∧ 0 ≤ (xs (2 : Int32).toNatClampNeg).toInt ∧ (xs (2 : Int32).toNatClampNeg).toInt ≤ 6) ∨ ((0 : Int32).toInt = 0 ∧ 0 ≤ (xs (2 : Int32).toNatClampNeg).toInt ∧ (xs (2 : Int32).toNatClampNeg).toInt ≤ 364)) → r_b_.toInt = -1) := hw_b_
          have hP : va_P D vwCl [(xh, .inr (10, [.ref xa_bells, .ref xa_feasts, .ref xa_tape, .ref xa_reader, .ref xa_rules, .ref xa_monks, .ref xa_duties, .ref xa_gifts, .ref xa_figures, .int 0, .int 0, .int 0, .int 0, .int (-1), .int 0])), (xa_gifts, .inr (4, [.ref xga_weekly, .ref xga_doubled, .ref xga_dueOn, .ref xga_owed, .ref xga_said, .ref xga_spared, .ref xga_leaveOf, .ref xga_leaveFrom, .ref xga_leaveTo, .int n1_a, .int 0])), (xga_weekly, .inl (cZ, 40, .inl f1_a)), (xga_doubled, .inl (cZ, 40, .inl f2_a)), (xga_dueOn, .inl (cI, 40, .inl f3_a)), (yh, .inr (11, [.int 0, .int 0, .int 0, .int 0, .int n1_b_, .int 0, .int 0, .int 0, .int 0, .ref ya_isPriest, .ref ya_bars, .ref ya_joined, .ref ya_turns, .ref ya_awayMonk, .ref ya_awayFrom, .ref ya_awayTo, .ref ya_feastDay, .ref ya_rank, .ref ya_isWeekly, .ref ya_isDouble, .ref ya_giftDay, .ref ya_giftFrom, .ref ya_owed, .ref ya_said, .ref ya_spared, .ref ya_leaveGift, .ref ya_leaveFrom, .ref ya_leaveTo, .ref ya_lateDay, .ref ya_lateOffice, .ref ya_lateBy, .ref ya_guests, .ref ya_who, .ref ya_used, .ref ya_lacks, .ref ya_candles, .ref ya_masses, .ref ya_owing, .ref ya_heldOn, .ref ya_waits, .ref ya_tape, .ref ya_text, .int 0, .int 0, .int 0, .int (-1), .int 0, .ref ya_statements, .ref ya_taken, .ref ya_sort, .ref ya_first, .ref ya_second, .int 0, .int 0])), (ya_isWeekly, .inl (cZ, 40, .inl f1_b_)), (ya_isDouble, .inl (cZ, 40, .inl f3_b_)), (ya_giftDay, .inl (cI, 40, .inl f2_b_)), (ya_giftFrom, .inl (cI, 40, .inl f4_b_))] H := hP
          have hD : va_D A [(xh, .inr (10, [.ref xa_bells, .ref xa_feasts, .ref xa_tape, .ref xa_reader, .ref xa_rules, .ref xa_monks, .ref xa_duties, .ref xa_gifts, .ref xa_figures, .int 0, .int 0, .int 0, .int 0, .int (-1), .int 0])), (xa_gifts, .inr (4, [.ref xga_weekly, .ref xga_doubled, .ref xga_dueOn, .ref xga_owed, .ref xga_said, .ref xga_spared, .ref xga_leaveOf, .ref xga_leaveFrom, .ref xga_leaveTo, .int n1_a, .int 0])), (xga_weekly, .inl (cZ, 40, .inl f1_a)), (xga_doubled, .inl (cZ, 40, .inl f2_a)), (xga_dueOn, .inl (cI, 40, .inl f3_a)), (yh, .inr (11, [.int 0, .int 0, .int 0, .int 0, .int n1_b_, .int 0, .int 0, .int 0, .int 0, .ref ya_isPriest, .ref ya_bars, .ref ya_joined, .ref ya_turns, .ref ya_awayMonk, .ref ya_awayFrom, .ref ya_awayTo, .ref ya_feastDay, .ref ya_rank, .ref ya_isWeekly, .ref ya_isDouble, .ref ya_giftDay, .ref ya_giftFrom, .ref ya_owed, .ref ya_said, .ref ya_spared, .ref ya_leaveGift, .ref ya_leaveFrom, .ref ya_leaveTo, .ref ya_lateDay, .ref ya_lateOffice, .ref ya_lateBy, .ref ya_guests, .ref ya_who, .ref ya_used, .ref ya_lacks, .ref ya_candles, .ref ya_masses, .ref ya_owing, .ref ya_heldOn, .ref ya_waits, .ref ya_tape, .ref ya_text, .int 0, .int 0, .int 0, .int (-1), .int 0, .ref ya_statements, .ref ya_taken, .ref ya_sort, .ref ya_first, .ref ya_second, .int 0, .int 0])), (ya_isWeekly, .inl (cZ, 40, .inl f1_b_)), (ya_isDouble, .inl (cZ, 40, .inl f3_b_)), (ya_giftDay, .inl (cI, 40, .inl f2_b_)), (ya_giftFrom, .inl (cI, 40, .inl f4_b_))] := hD
          refine lv_icmp_eq (tgt := 917) hx hb dL_law_622 (by decide) (fun cmp => ?_) (fun cmp => ?_)
          · have tcmp := t_eq cmp
            obtain ⟨x_12, ex_12⟩ : ∃ y : Int32, y = 0 + 6 := ⟨_, rfl⟩
            obtain rfl : x_12 = 6 := by rw [ex_12]; decide
            refine lv_iinc (v := 6) (lv' := [(3, .int 6), (2, .ref yh), (1, .ref xh), (0, .ref b)]) hx hb dL_law_917 hl (k := 0) rfl (by decide) (by decide) rfl (fun ls hl => ?_)
            refine lv_goto (tgt := 18) hx hb dL_law_920 (by decide) ?_
            refine lv_iload_n hx hb dL_law_18 rfl (lv_at hl 0 rfl) ?_
            refine lv_aload_n hx hb dL_law_19 rfl (lv_at hl 3 rfl) ?_
            refine va_slen hx hb hX hbl hbA hS dL_law_20 ?_
            refine lv_topi (fun x_13 ex_13 => ?_)
            have tx_13 : x_13.toInt = L := by rw [ex_13]; exact nI_toInt (by omega)
            refine lv_bipush (v := 6) hx hb dL_law_21 (by decide) ?_
            refine lv_isub hx hb dL_law_23 ?_
            refine lv_topi (fun x_14 ex_14 => ?_)
            first | have tx_14 := t_sub ex_14 (by omega) (by omega) | skip
            refine lv_icmp_gt (tgt := 923) hx hb dL_law_24 (by decide) (fun c_15 => ?_) (fun c_15 => ?_)
            · have tc_15 := t_lt c_15
              refine lv_iconst (v := 1) hx hb dL_law_923 (by decide) ?_
              refine va_forget (fun q hq => hAs _ (hS.2.2 q hq)) ?_
              refine W.widen (k := 600000) (n := 7302250) (Nat.le_of_ble_eq_true rfl) (Nat.le_of_ble_eq_true rfl) ?_
              exact lw_ret hx hb hr hlocks dL_law_924
            · have tc_15 := t_nlt c_15
              exfalso; omega
          · have tcmp := t_neq cmp
            exact absurd (Int32.toInt_inj.mp (by omega)) cmp
        · have tc_10 := t_neq c_10
          exact absurd c_5 c_10
      · have tc_7 := t_neq c_7
        exact absurd c_2 c_7
    · have tc_5 := t_neq c_5
      refine lv_iconst (v := 1) hx hb dL_law_579 (by decide) ?_
      refine lv_goto (tgt := 584) hx hb dL_law_580 (by decide) ?_
      have hPc := hP.sub (ws' := [(xh, .inr (10, [.ref xa_bells, .ref xa_feasts, .ref xa_tape, .ref xa_reader, .ref xa_rules, .ref xa_monks, .ref xa_duties, .ref xa_gifts, .ref xa_figures, .int 0, .int 0, .int 0, .int 0, .int (-1), .int 0])), (xa_gifts, .inr (4, [.ref xga_weekly, .ref xga_doubled, .ref xga_dueOn, .ref xga_owed, .ref xga_said, .ref xga_spared, .ref xga_leaveOf, .ref xga_leaveFrom, .ref xga_leaveTo, .int 0, .int 0])), (xga_weekly, .inl (cZ, 40, .inl xgf_weekly)), (xga_doubled, .inl (cZ, 40, .inl xgf_doubled)), (xga_dueOn, .inl (cI, 40, .inl xgf_dueOn))]) [0, 1, 2, 3, 4] rfl
      refine rwV (As := [.int 0, .int (xs (2 : Int32).toNatClampNeg), .int 1]) (rest := []) (wc := [(xh, .inr (10, [.ref xa_bells, .ref xa_feasts, .ref xa_tape, .ref xa_reader, .ref xa_rules, .ref xa_monks, .ref xa_duties, .ref xa_gifts, .ref xa_figures, .int 0, .int 0, .int 0, .int 0, .int (-1), .int 0])), (xa_gifts, .inr (4, [.ref xga_weekly, .ref xga_doubled, .ref xga_dueOn, .ref xga_owed, .ref xga_said, .ref xga_spared, .ref xga_leaveOf, .ref xga_leaveFrom, .ref xga_leaveTo, .int 0, .int 0])), (xga_weekly, .inl (cZ, 40, .inl xgf_weekly)), (xga_doubled, .inl (cZ, 40, .inl xgf_doubled)), (xga_dueOn, .inl (cI, 40, .inl xgf_dueOn))]) (wr := [(yh, .inr (11, [.int 0, .int 0, .int 0, .int 0, .int 0, .int 0, .int 0, .int 0, .int 0, .ref ya_isPriest, .ref ya_bars, .ref ya_joined, .ref ya_turns, .ref ya_awayMonk, .ref ya_awayFrom, .ref ya_awayTo, .ref ya_feastDay, .ref ya_rank, .ref ya_isWeekly, .ref ya_isDouble, .ref ya_giftDay, .ref ya_giftFrom, .ref ya_owed, .ref ya_said, .ref ya_spared, .ref ya_leaveGift, .ref ya_leaveFrom, .ref ya_leaveTo, .ref ya_lateDay, .ref ya_lateOffice, .ref ya_lateBy, .ref ya_guests, .ref ya_who, .ref ya_used, .ref ya_lacks, .ref ya_candles, .ref ya_masses, .ref ya_owing, .ref ya_heldOn, .ref ya_waits, .ref ya_tape, .ref ya_text, .int 0, .int 0, .int 0, .int (-1), .int 0, .ref ya_statements, .ref ya_taken, .ref ya_sort, .ref ya_first, .ref ya_second, .int 0, .int 0])), (ya_isWeekly, .inl (cZ, 40, .inl yf_isWeekly)), (ya_isDouble, .inl (cZ, 40, .inl yf_isDouble)), (ya_giftDay, .inl (cI, 40, .inl yf_giftDay)), (ya_giftFrom, .inl (cI, 40, .inl yf_giftFrom))]) S (p_gift  ) (cwV 3 hts gL_law_X11_gift rfl rfl rfl (by decide +kernel) ⟨Nat.le_of_ble_eq_true rfl, Nat.le_of_ble_eq_true rfl⟩) hK hP hD hS hA [0, 1, 2, 3, 4] [5, 6, 7, 8, 9] rfl rfl (by decide) (by decide) (by decide) (va_recv hK.1 hPc (ci := 10) (q0 := 0) rfl rfl) rfl hl.1 rfl (Nat.le_of_ble_eq_true rfl) dL_law_584 ⟨Nat.le_of_ble_eq_true rfl, Nat.le_of_ble_eq_true rfl⟩ (fun r_a u_a H locs hw_a hP hD hS => ?_)
      obtain ⟨n1_a, f1_a, f2_a, f3_a⟩ := u_a
      have hw_a : ((((0 : Int32).toInt ≠ 0 ∧ 0 ≤ (xs (2 : Int32).toNatClampNeg).toInt ∧ (xs (2 : Int32).toNatClampNeg).toInt ≤ 6) ∨ ((0 : Int32).toInt = 0 ∧ 0 ≤ (xs (2 : Int32).toNatClampNeg).toInt ∧ (xs (2 : Int32).toNatClampNeg).toInt ≤ 364)) → r_a.toInt = 0) ∧ (¬ (((0 : Int32).toInt ≠ 0 ∧ 0 ≤ (xs (2 : Int32).toNatClampNeg).toInt ∧ (xs (2 : Int32).toNatClampNeg).toInt ≤ 6) ∨ ((0 : Int32).toInt = 0 ∧ 0 ≤ (xs (2 : Int32).toNatClampNeg).toInt ∧ (xs (2 : Int32).toNatClampNeg).toInt ≤ 364)) → r_a.toInt = -1) := hw_a
      have hP : va_P D vwCl [(yh, .inr (11, [.int 0, .int 0, .int 0, .int 0, .int 0, .int 0, .int 0, .int 0, .int 0, .ref ya_isPriest, .ref ya_bars, .ref ya_joined, .ref ya_turns, .ref ya_awayMonk, .ref ya_awayFrom, .ref ya_awayTo, .ref ya_feastDay, .ref ya_rank, .ref ya_isWeekly, .ref ya_isDouble, .ref ya_giftDay, .ref ya_giftFrom, .ref ya_owed, .ref ya_said, .ref ya_spared, .ref ya_leaveGift, .ref ya_leaveFrom, .ref ya_leaveTo, .ref ya_lateDay, .ref ya_lateOffice, .ref ya_lateBy, .ref ya_guests, .ref ya_who, .ref ya_used, .ref ya_lacks, .ref ya_candles, .ref ya_masses, .ref ya_owing, .ref ya_heldOn, .ref ya_waits, .ref ya_tape, .ref ya_text, .int 0, .int 0, .int 0, .int (-1), .int 0, .ref ya_statements, .ref ya_taken, .ref ya_sort, .ref ya_first, .ref ya_second, .int 0, .int 0])), (ya_isWeekly, .inl (cZ, 40, .inl yf_isWeekly)), (ya_isDouble, .inl (cZ, 40, .inl yf_isDouble)), (ya_giftDay, .inl (cI, 40, .inl yf_giftDay)), (ya_giftFrom, .inl (cI, 40, .inl yf_giftFrom)), (xh, .inr (10, [.ref xa_bells, .ref xa_feasts, .ref xa_tape, .ref xa_reader, .ref xa_rules, .ref xa_monks, .ref xa_duties, .ref xa_gifts, .ref xa_figures, .int 0, .int 0, .int 0, .int 0, .int (-1), .int 0])), (xa_gifts, .inr (4, [.ref xga_weekly, .ref xga_doubled, .ref xga_dueOn, .ref xga_owed, .ref xga_said, .ref xga_spared, .ref xga_leaveOf, .ref xga_leaveFrom, .ref xga_leaveTo, .int n1_a, .int 0])), (xga_weekly, .inl (cZ, 40, .inl f1_a)), (xga_doubled, .inl (cZ, 40, .inl f2_a)), (xga_dueOn, .inl (cI, 40, .inl f3_a))] H := hP
      have hD : va_D A [(yh, .inr (11, [.int 0, .int 0, .int 0, .int 0, .int 0, .int 0, .int 0, .int 0, .int 0, .ref ya_isPriest, .ref ya_bars, .ref ya_joined, .ref ya_turns, .ref ya_awayMonk, .ref ya_awayFrom, .ref ya_awayTo, .ref ya_feastDay, .ref ya_rank, .ref ya_isWeekly, .ref ya_isDouble, .ref ya_giftDay, .ref ya_giftFrom, .ref ya_owed, .ref ya_said, .ref ya_spared, .ref ya_leaveGift, .ref ya_leaveFrom, .ref ya_leaveTo, .ref ya_lateDay, .ref ya_lateOffice, .ref ya_lateBy, .ref ya_guests, .ref ya_who, .ref ya_used, .ref ya_lacks, .ref ya_candles, .ref ya_masses, .ref ya_owing, .ref ya_heldOn, .ref ya_waits, .ref ya_tape, .ref ya_text, .int 0, .int 0, .int 0, .int (-1), .int 0, .ref ya_statements, .ref ya_taken, .ref ya_sort, .ref ya_first, .ref ya_second, .int 0, .int 0])), (ya_isWeekly, .inl (cZ, 40, .inl yf_isWeekly)), (ya_isDouble, .inl (cZ, 40, .inl yf_isDouble)), (ya_giftDay, .inl (cI, 40, .inl yf_giftDay)), (ya_giftFrom, .inl (cI, 40, .inl yf_giftFrom)), (xh, .inr (10, [.ref xa_bells, .ref xa_feasts, .ref xa_tape, .ref xa_reader, .ref xa_rules, .ref xa_monks, .ref xa_duties, .ref xa_gifts, .ref xa_figures, .int 0, .int 0, .int 0, .int 0, .int (-1), .int 0])), (xa_gifts, .inr (4, [.ref xga_weekly, .ref xga_doubled, .ref xga_dueOn, .ref xga_owed, .ref xga_said, .ref xga_spared, .ref xga_leaveOf, .ref xga_leaveFrom, .ref xga_leaveTo, .int n1_a, .int 0])), (xga_weekly, .inl (cZ, 40, .inl f1_a)), (xga_doubled, .inl (cZ, 40, .inl f2_a)), (xga_dueOn, .inl (cI, 40, .inl f3_a))] := hD
      refine lv_aload_n hx hb dL_law_587 rfl (lv_at hl 1 rfl) ?_
      refine lv_aload_n hx hb dL_law_588 rfl (lv_at hl 3 rfl) ?_
      refine lv_iload_n hx hb dL_law_589 rfl (lv_at hl 0 rfl) ?_
      refine lv_iconst (v := 1) hx hb dL_law_590 (by decide) ?_
      refine lv_iadd hx hb dL_law_591 ?_
      refine lv_topi (fun x_16 ex_16 => ?_)
      obtain rfl : x_16 = 1 := by rw [ex_16]; decide
      refine va_sld hx hb hX hbl hbA hS (t_in (by omega) (by omega)) dL_law_592 ?_
      refine lv_if_eq (tgt := 600) hx hb dL_law_593 (by decide) (fun c_17 => ?_) (fun c_17 => ?_)
      · have tc_17 := t_eq c_17
        refine lv_iconst (v := 0) hx hb dL_law_600 (by decide) ?_
        refine lv_aload_n hx hb dL_law_601 rfl (lv_at hl 3 rfl) ?_
        refine lv_iload_n hx hb dL_law_602 rfl (lv_at hl 0 rfl) ?_
        refine lv_iconst (v := 2) hx hb dL_law_603 (by decide) ?_
        refine lv_iadd hx hb dL_law_604 ?_
        refine lv_topi (fun x_18 ex_18 => ?_)
        obtain rfl : x_18 = 2 := by rw [ex_18]; decide
        refine va_sld hx hb hX hbl hbA hS (t_in (by omega) (by omega)) dL_law_605 ?_
        refine lv_aload_n hx hb dL_law_606 rfl (lv_at hl 3 rfl) ?_
        refine lv_iload_n hx hb dL_law_607 rfl (lv_at hl 0 rfl) ?_
        refine lv_iconst (v := 3) hx hb dL_law_608 (by decide) ?_
        refine lv_iadd hx hb dL_law_609 ?_
        refine lv_topi (fun x_19 ex_19 => ?_)
        obtain rfl : x_19 = 3 := by rw [ex_19]; decide
        refine va_sld hx hb hX hbl hbA hS (t_in (by omega) (by omega)) dL_law_610 ?_
        refine lv_if_eq (tgt := 618) hx hb dL_law_611 (by decide) (fun c_20 => ?_) (fun c_20 => ?_)
        · have tc_20 := t_eq c_20
          exact absurd c_20 c_5
        · have tc_20 := t_neq c_20
          refine lv_iconst (v := 1) hx hb dL_law_614 (by decide) ?_
          refine lv_goto (tgt := 619) hx hb dL_law_615 (by decide) ?_
          have hPc := hP.sub (ws' := [(yh, .inr (11, [.int 0, .int 0, .int 0, .int 0, .int 0, .int 0, .int 0, .int 0, .int 0, .ref ya_isPriest, .ref ya_bars, .ref ya_joined, .ref ya_turns, .ref ya_awayMonk, .ref ya_awayFrom, .ref ya_awayTo, .ref ya_feastDay, .ref ya_rank, .ref ya_isWeekly, .ref ya_isDouble, .ref ya_giftDay, .ref ya_giftFrom, .ref ya_owed, .ref ya_said, .ref ya_spared, .ref ya_leaveGift, .ref ya_leaveFrom, .ref ya_leaveTo, .ref ya_lateDay, .ref ya_lateOffice, .ref ya_lateBy, .ref ya_guests, .ref ya_who, .ref ya_used, .ref ya_lacks, .ref ya_candles, .ref ya_masses, .ref ya_owing, .ref ya_heldOn, .ref ya_waits, .ref ya_tape, .ref ya_text, .int 0, .int 0, .int 0, .int (-1), .int 0, .ref ya_statements, .ref ya_taken, .ref ya_sort, .ref ya_first, .ref ya_second, .int 0, .int 0])), (ya_isWeekly, .inl (cZ, 40, .inl yf_isWeekly)), (ya_isDouble, .inl (cZ, 40, .inl yf_isDouble)), (ya_giftDay, .inl (cI, 40, .inl yf_giftDay)), (ya_giftFrom, .inl (cI, 40, .inl yf_giftFrom))]) [0, 1, 2, 3, 4] rfl
          refine rwV (As := [.int 0, .int (xs (2 : Int32).toNatClampNeg), .int 1]) (rest := [.int r_a]) (wc := [(yh, .inr (11, [.int 0, .int 0, .int 0, .int 0, .int 0, .int 0, .int 0, .int 0, .int 0, .ref ya_isPriest, .ref ya_bars, .ref ya_joined, .ref ya_turns, .ref ya_awayMonk, .ref ya_awayFrom, .ref ya_awayTo, .ref ya_feastDay, .ref ya_rank, .ref ya_isWeekly, .ref ya_isDouble, .ref ya_giftDay, .ref ya_giftFrom, .ref ya_owed, .ref ya_said, .ref ya_spared, .ref ya_leaveGift, .ref ya_leaveFrom, .ref ya_leaveTo, .ref ya_lateDay, .ref ya_lateOffice, .ref ya_lateBy, .ref ya_guests, .ref ya_who, .ref ya_used, .ref ya_lacks, .ref ya_candles, .ref ya_masses, .ref ya_owing, .ref ya_heldOn, .ref ya_waits, .ref ya_tape, .ref ya_text, .int 0, .int 0, .int 0, .int (-1), .int 0, .ref ya_statements, .ref ya_taken, .ref ya_sort, .ref ya_first, .ref ya_second, .int 0, .int 0])), (ya_isWeekly, .inl (cZ, 40, .inl yf_isWeekly)), (ya_isDouble, .inl (cZ, 40, .inl yf_isDouble)), (ya_giftDay, .inl (cI, 40, .inl yf_giftDay)), (ya_giftFrom, .inl (cI, 40, .inl yf_giftFrom))]) (wr := [(xh, .inr (10, [.ref xa_bells, .ref xa_feasts, .ref xa_tape, .ref xa_reader, .ref xa_rules, .ref xa_monks, .ref xa_duties, .ref xa_gifts, .ref xa_figures, .int 0, .int 0, .int 0, .int 0, .int (-1), .int 0])), (xa_gifts, .inr (4, [.ref xga_weekly, .ref xga_doubled, .ref xga_dueOn, .ref xga_owed, .ref xga_said, .ref xga_spared, .ref xga_leaveOf, .ref xga_leaveFrom, .ref xga_leaveTo, .int n1_a, .int 0])), (xga_weekly, .inl (cZ, 40, .inl f1_a)), (xga_doubled, .inl (cZ, 40, .inl f2_a)), (xga_dueOn, .inl (cI, 40, .inl f3_a))]) S (q_gift  ) (cwV 3 hts gL_law_X12_gift rfl rfl rfl (by decide +kernel) ⟨Nat.le_of_ble_eq_true rfl, Nat.le_of_ble_eq_true rfl⟩) hK hP hD hS hA [0, 1, 2, 3, 4] [5, 6, 7, 8, 9] rfl rfl (by decide) (by decide) (by decide) (va_recv hK.1 hPc (ci := 11) (q0 := 0) rfl rfl) rfl hl.1 rfl (Nat.le_of_ble_eq_true rfl) dL_law_619 ⟨Nat.le_of_ble_eq_true rfl, Nat.le_of_ble_eq_true rfl⟩ (fun r_b_ u_b_ H locs hw_b_ hP hD hS => ?_)
          obtain ⟨n1_b_, f1_b_, f2_b_, f3_b_, f4_b_⟩ := u_b_
          have hw_b_ : ((((0 : Int32).toInt ≠ 0 ∧ 0 ≤ (xs (2 : Int32).toNatClampNeg).toInt ∧ (xs (2 : Int32).toNatClampNeg).toInt ≤ 6) ∨ ((0 : Int32).toInt = 0 ∧ 0 ≤ (xs (2 : Int32).toNatClampNeg).toInt ∧ (xs (2 : Int32).toNatClampNeg).toInt ≤ 364)) → r_b_.toInt = 0) ∧ (¬ (((0 : Int32).toInt ≠ 0 ∧ 0 ≤ (xs (2 : Int32).toNatClampNeg).toInt ∧ (xs (2 : Int32).toNatClampNeg).toInt ≤ 6) ∨ ((0 : Int32).toInt = 0 ∧ 0 ≤ (xs (2 : Int32).toNatClampNeg).toInt ∧ (xs (2 : Int32).toNatClampNeg).toInt ≤ 364)) → r_b_.toInt = -1) := hw_b_
          have hP : va_P D vwCl [(xh, .inr (10, [.ref xa_bells, .ref xa_feasts, .ref xa_tape, .ref xa_reader, .ref xa_rules, .ref xa_monks, .ref xa_duties, .ref xa_gifts, .ref xa_figures, .int 0, .int 0, .int 0, .int 0, .int (-1), .int 0])), (xa_gifts, .inr (4, [.ref xga_weekly, .ref xga_doubled, .ref xga_dueOn, .ref xga_owed, .ref xga_said, .ref xga_spared, .ref xga_leaveOf, .ref xga_leaveFrom, .ref xga_leaveTo, .int n1_a, .int 0])), (xga_weekly, .inl (cZ, 40, .inl f1_a)), (xga_doubled, .inl (cZ, 40, .inl f2_a)), (xga_dueOn, .inl (cI, 40, .inl f3_a)), (yh, .inr (11, [.int 0, .int 0, .int 0, .int 0, .int n1_b_, .int 0, .int 0, .int 0, .int 0, .ref ya_isPriest, .ref ya_bars, .ref ya_joined, .ref ya_turns, .ref ya_awayMonk, .ref ya_awayFrom, .ref ya_awayTo, .ref ya_feastDay, .ref ya_rank, .ref ya_isWeekly, .ref ya_isDouble, .ref ya_giftDay, .ref ya_giftFrom, .ref ya_owed, .ref ya_said, .ref ya_spared, .ref ya_leaveGift, .ref ya_leaveFrom, .ref ya_leaveTo, .ref ya_lateDay, .ref ya_lateOffice, .ref ya_lateBy, .ref ya_guests, .ref ya_who, .ref ya_used, .ref ya_lacks, .ref ya_candles, .ref ya_masses, .ref ya_owing, .ref ya_heldOn, .ref ya_waits, .ref ya_tape, .ref ya_text, .int 0, .int 0, .int 0, .int (-1), .int 0, .ref ya_statements, .ref ya_taken, .ref ya_sort, .ref ya_first, .ref ya_second, .int 0, .int 0])), (ya_isWeekly, .inl (cZ, 40, .inl f1_b_)), (ya_isDouble, .inl (cZ, 40, .inl f3_b_)), (ya_giftDay, .inl (cI, 40, .inl f2_b_)), (ya_giftFrom, .inl (cI, 40, .inl f4_b_))] H := hP
          have hD : va_D A [(xh, .inr (10, [.ref xa_bells, .ref xa_feasts, .ref xa_tape, .ref xa_reader, .ref xa_rules, .ref xa_monks, .ref xa_duties, .ref xa_gifts, .ref xa_figures, .int 0, .int 0, .int 0, .int 0, .int (-1), .int 0])), (xa_gifts, .inr (4, [.ref xga_weekly, .ref xga_doubled, .ref xga_dueOn, .ref xga_owed, .ref xga_said, .ref xga_spared, .ref xga_leaveOf, .ref xga_leaveFrom, .ref xga_leaveTo, .int n1_a, .int 0])), (xga_weekly, .inl (cZ, 40, .inl f1_a)), (xga_doubled, .inl (cZ, 40, .inl f2_a)), (xga_dueOn, .inl (cI, 40, .inl f3_a)), (yh, .inr (11, [.int 0, .int 0, .int 0, .int 0, .int n1_b_, .int 0, .int 0, .int 0, .int 0, .ref ya_isPriest, .ref ya_bars, .ref ya_joined, .ref ya_turns, .ref ya_awayMonk, .ref ya_awayFrom, .ref ya_awayTo, .ref ya_feastDay, .ref ya_rank, .ref ya_isWeekly, .ref ya_isDouble, .ref ya_giftDay, .ref ya_giftFrom, .ref ya_owed, .ref ya_said, .ref ya_spared, .ref ya_leaveGift, .ref ya_leaveFrom, .ref ya_leaveTo, .ref ya_lateDay, .ref ya_lateOffice, .ref ya_lateBy, .ref ya_guests, .ref ya_who, .ref ya_used, .ref ya_lacks, .ref ya_candles, .ref ya_masses, .ref ya_owing, .ref ya_heldOn, .ref ya_waits, .ref ya_tape, .ref ya_text, .int 0, .int 0, .int 0, .int (-1), .int 0, .ref ya_statements, .ref ya_taken, .ref ya_sort, .ref ya_first, .ref ya_second, .int 0, .int 0])), (ya_isWeekly, .inl (cZ, 40, .inl f1_b_)), (ya_isDouble, .inl (cZ, 40, .inl f3_b_)), (ya_giftDay, .inl (cI, 40, .inl f2_b_)), (ya_giftFrom, .inl (cI, 40, .inl f4_b_))] := hD
          refine lv_icmp_eq (tgt := 917) hx hb dL_law_622 (by decide) (fun cmp => ?_) (fun cmp => ?_)
          · have tcmp := t_eq cmp
            obtain ⟨x_22, ex_22⟩ : ∃ y : Int32, y = 0 + 6 := ⟨_, rfl⟩
            obtain rfl : x_22 = 6 := by rw [ex_22]; decide
            refine lv_iinc (v := 6) (lv' := [(3, .int 6), (2, .ref yh), (1, .ref xh), (0, .ref b)]) hx hb dL_law_917 hl (k := 0) rfl (by decide) (by decide) rfl (fun ls hl => ?_)
            refine lv_goto (tgt := 18) hx hb dL_law_920 (by decide) ?_
            refine lv_iload_n hx hb dL_law_18 rfl (lv_at hl 0 rfl) ?_
            refine lv_aload_n hx hb dL_law_19 rfl (lv_at hl 3 rfl) ?_
            refine va_slen hx hb hX hbl hbA hS dL_law_20 ?_
            refine lv_topi (fun x_23 ex_23 => ?_)
            have tx_23 : x_23.toInt = L := by rw [ex_23]; exact nI_toInt (by omega)
            refine lv_bipush (v := 6) hx hb dL_law_21 (by decide) ?_
            refine lv_isub hx hb dL_law_23 ?_
            refine lv_topi (fun x_24 ex_24 => ?_)
            first | have tx_24 := t_sub ex_24 (by omega) (by omega) | skip
            refine lv_icmp_gt (tgt := 923) hx hb dL_law_24 (by decide) (fun c_25 => ?_) (fun c_25 => ?_)
            · have tc_25 := t_lt c_25
              refine lv_iconst (v := 1) hx hb dL_law_923 (by decide) ?_
              refine va_forget (fun q hq => hAs _ (hS.2.2 q hq)) ?_
              refine W.widen (k := 600000) (n := 7302250) (Nat.le_of_ble_eq_true rfl) (Nat.le_of_ble_eq_true rfl) ?_
              exact lw_ret hx hb hr hlocks dL_law_924
            · have tc_25 := t_nlt c_25
              exfalso; omega
          · have tcmp := t_neq cmp
            exact absurd (Int32.toInt_inj.mp (by omega)) cmp
      · have tc_17 := t_neq c_17
        exact absurd c_2 c_17
  · have tc_2 := t_neq c_2
    refine lv_iconst (v := 1) hx hb dL_law_561 (by decide) ?_
    refine lv_goto (tgt := 566) hx hb dL_law_562 (by decide) ?_
    refine lv_aload_n hx hb dL_law_566 rfl (lv_at hl 3 rfl) ?_
    refine lv_iload_n hx hb dL_law_567 rfl (lv_at hl 0 rfl) ?_
    refine lv_iconst (v := 2) hx hb dL_law_568 (by decide) ?_
    refine lv_iadd hx hb dL_law_569 ?_
    refine lv_topi (fun x_26 ex_26 => ?_)
    obtain rfl : x_26 = 2 := by rw [ex_26]; decide
    refine va_sld hx hb hX hbl hbA hS (t_in (by omega) (by omega)) dL_law_570 ?_
    refine lv_aload_n hx hb dL_law_571 rfl (lv_at hl 3 rfl) ?_
    refine lv_iload_n hx hb dL_law_572 rfl (lv_at hl 0 rfl) ?_
    refine lv_iconst (v := 3) hx hb dL_law_573 (by decide) ?_
    refine lv_iadd hx hb dL_law_574 ?_
    refine lv_topi (fun x_27 ex_27 => ?_)
    obtain rfl : x_27 = 3 := by rw [ex_27]; decide
    refine va_sld hx hb hX hbl hbA hS (t_in (by omega) (by omega)) dL_law_575 ?_
    refine lv_if_eq (tgt := 583) hx hb dL_law_576 (by decide) (fun c_28 => ?_) (fun c_28 => ?_)
    · have tc_28 := t_eq c_28
      refine lv_iconst (v := 0) hx hb dL_law_583 (by decide) ?_
      have hPc := hP.sub (ws' := [(xh, .inr (10, [.ref xa_bells, .ref xa_feasts, .ref xa_tape, .ref xa_reader, .ref xa_rules, .ref xa_monks, .ref xa_duties, .ref xa_gifts, .ref xa_figures, .int 0, .int 0, .int 0, .int 0, .int (-1), .int 0])), (xa_gifts, .inr (4, [.ref xga_weekly, .ref xga_doubled, .ref xga_dueOn, .ref xga_owed, .ref xga_said, .ref xga_spared, .ref xga_leaveOf, .ref xga_leaveFrom, .ref xga_leaveTo, .int 0, .int 0])), (xga_weekly, .inl (cZ, 40, .inl xgf_weekly)), (xga_doubled, .inl (cZ, 40, .inl xgf_doubled)), (xga_dueOn, .inl (cI, 40, .inl xgf_dueOn))]) [0, 1, 2, 3, 4] rfl
      refine rwV (As := [.int 1, .int (xs (2 : Int32).toNatClampNeg), .int 0]) (rest := []) (wc := [(xh, .inr (10, [.ref xa_bells, .ref xa_feasts, .ref xa_tape, .ref xa_reader, .ref xa_rules, .ref xa_monks, .ref xa_duties, .ref xa_gifts, .ref xa_figures, .int 0, .int 0, .int 0, .int 0, .int (-1), .int 0])), (xa_gifts, .inr (4, [.ref xga_weekly, .ref xga_doubled, .ref xga_dueOn, .ref xga_owed, .ref xga_said, .ref xga_spared, .ref xga_leaveOf, .ref xga_leaveFrom, .ref xga_leaveTo, .int 0, .int 0])), (xga_weekly, .inl (cZ, 40, .inl xgf_weekly)), (xga_doubled, .inl (cZ, 40, .inl xgf_doubled)), (xga_dueOn, .inl (cI, 40, .inl xgf_dueOn))]) (wr := [(yh, .inr (11, [.int 0, .int 0, .int 0, .int 0, .int 0, .int 0, .int 0, .int 0, .int 0, .ref ya_isPriest, .ref ya_bars, .ref ya_joined, .ref ya_turns, .ref ya_awayMonk, .ref ya_awayFrom, .ref ya_awayTo, .ref ya_feastDay, .ref ya_rank, .ref ya_isWeekly, .ref ya_isDouble, .ref ya_giftDay, .ref ya_giftFrom, .ref ya_owed, .ref ya_said, .ref ya_spared, .ref ya_leaveGift, .ref ya_leaveFrom, .ref ya_leaveTo, .ref ya_lateDay, .ref ya_lateOffice, .ref ya_lateBy, .ref ya_guests, .ref ya_who, .ref ya_used, .ref ya_lacks, .ref ya_candles, .ref ya_masses, .ref ya_owing, .ref ya_heldOn, .ref ya_waits, .ref ya_tape, .ref ya_text, .int 0, .int 0, .int 0, .int (-1), .int 0, .ref ya_statements, .ref ya_taken, .ref ya_sort, .ref ya_first, .ref ya_second, .int 0, .int 0])), (ya_isWeekly, .inl (cZ, 40, .inl yf_isWeekly)), (ya_isDouble, .inl (cZ, 40, .inl yf_isDouble)), (ya_giftDay, .inl (cI, 40, .inl yf_giftDay)), (ya_giftFrom, .inl (cI, 40, .inl yf_giftFrom))]) S (p_gift  ) (cwV 3 hts gL_law_X11_gift rfl rfl rfl (by decide +kernel) ⟨Nat.le_of_ble_eq_true rfl, Nat.le_of_ble_eq_true rfl⟩) hK hP hD hS hA [0, 1, 2, 3, 4] [5, 6, 7, 8, 9] rfl rfl (by decide) (by decide) (by decide) (va_recv hK.1 hPc (ci := 10) (q0 := 0) rfl rfl) rfl hl.1 rfl (Nat.le_of_ble_eq_true rfl) dL_law_584 ⟨Nat.le_of_ble_eq_true rfl, Nat.le_of_ble_eq_true rfl⟩ (fun r_a u_a H locs hw_a hP hD hS => ?_)
      obtain ⟨n1_a, f1_a, f2_a, f3_a⟩ := u_a
      have hw_a : ((((1 : Int32).toInt ≠ 0 ∧ 0 ≤ (xs (2 : Int32).toNatClampNeg).toInt ∧ (xs (2 : Int32).toNatClampNeg).toInt ≤ 6) ∨ ((1 : Int32).toInt = 0 ∧ 0 ≤ (xs (2 : Int32).toNatClampNeg).toInt ∧ (xs (2 : Int32).toNatClampNeg).toInt ≤ 364)) → r_a.toInt = 0) ∧ (¬ (((1 : Int32).toInt ≠ 0 ∧ 0 ≤ (xs (2 : Int32).toNatClampNeg).toInt ∧ (xs (2 : Int32).toNatClampNeg).toInt ≤ 6) ∨ ((1 : Int32).toInt = 0 ∧ 0 ≤ (xs (2 : Int32).toNatClampNeg).toInt ∧ (xs (2 : Int32).toNatClampNeg).toInt ≤ 364)) → r_a.toInt = -1) := hw_a
      have hP : va_P D vwCl [(yh, .inr (11, [.int 0, .int 0, .int 0, .int 0, .int 0, .int 0, .int 0, .int 0, .int 0, .ref ya_isPriest, .ref ya_bars, .ref ya_joined, .ref ya_turns, .ref ya_awayMonk, .ref ya_awayFrom, .ref ya_awayTo, .ref ya_feastDay, .ref ya_rank, .ref ya_isWeekly, .ref ya_isDouble, .ref ya_giftDay, .ref ya_giftFrom, .ref ya_owed, .ref ya_said, .ref ya_spared, .ref ya_leaveGift, .ref ya_leaveFrom, .ref ya_leaveTo, .ref ya_lateDay, .ref ya_lateOffice, .ref ya_lateBy, .ref ya_guests, .ref ya_who, .ref ya_used, .ref ya_lacks, .ref ya_candles, .ref ya_masses, .ref ya_owing, .ref ya_heldOn, .ref ya_waits, .ref ya_tape, .ref ya_text, .int 0, .int 0, .int 0, .int (-1), .int 0, .ref ya_statements, .ref ya_taken, .ref ya_sort, .ref ya_first, .ref ya_second, .int 0, .int 0])), (ya_isWeekly, .inl (cZ, 40, .inl yf_isWeekly)), (ya_isDouble, .inl (cZ, 40, .inl yf_isDouble)), (ya_giftDay, .inl (cI, 40, .inl yf_giftDay)), (ya_giftFrom, .inl (cI, 40, .inl yf_giftFrom)), (xh, .inr (10, [.ref xa_bells, .ref xa_feasts, .ref xa_tape, .ref xa_reader, .ref xa_rules, .ref xa_monks, .ref xa_duties, .ref xa_gifts, .ref xa_figures, .int 0, .int 0, .int 0, .int 0, .int (-1), .int 0])), (xa_gifts, .inr (4, [.ref xga_weekly, .ref xga_doubled, .ref xga_dueOn, .ref xga_owed, .ref xga_said, .ref xga_spared, .ref xga_leaveOf, .ref xga_leaveFrom, .ref xga_leaveTo, .int n1_a, .int 0])), (xga_weekly, .inl (cZ, 40, .inl f1_a)), (xga_doubled, .inl (cZ, 40, .inl f2_a)), (xga_dueOn, .inl (cI, 40, .inl f3_a))] H := hP
      have hD : va_D A [(yh, .inr (11, [.int 0, .int 0, .int 0, .int 0, .int 0, .int 0, .int 0, .int 0, .int 0, .ref ya_isPriest, .ref ya_bars, .ref ya_joined, .ref ya_turns, .ref ya_awayMonk, .ref ya_awayFrom, .ref ya_awayTo, .ref ya_feastDay, .ref ya_rank, .ref ya_isWeekly, .ref ya_isDouble, .ref ya_giftDay, .ref ya_giftFrom, .ref ya_owed, .ref ya_said, .ref ya_spared, .ref ya_leaveGift, .ref ya_leaveFrom, .ref ya_leaveTo, .ref ya_lateDay, .ref ya_lateOffice, .ref ya_lateBy, .ref ya_guests, .ref ya_who, .ref ya_used, .ref ya_lacks, .ref ya_candles, .ref ya_masses, .ref ya_owing, .ref ya_heldOn, .ref ya_waits, .ref ya_tape, .ref ya_text, .int 0, .int 0, .int 0, .int (-1), .int 0, .ref ya_statements, .ref ya_taken, .ref ya_sort, .ref ya_first, .ref ya_second, .int 0, .int 0])), (ya_isWeekly, .inl (cZ, 40, .inl yf_isWeekly)), (ya_isDouble, .inl (cZ, 40, .inl yf_isDouble)), (ya_giftDay, .inl (cI, 40, .inl yf_giftDay)), (ya_giftFrom, .inl (cI, 40, .inl yf_giftFrom)), (xh, .inr (10, [.ref xa_bells, .ref xa_feasts, .ref xa_tape, .ref xa_reader, .ref xa_rules, .ref xa_monks, .ref xa_duties, .ref xa_gifts, .ref xa_figures, .int 0, .int 0, .int 0, .int 0, .int (-1), .int 0])), (xa_gifts, .inr (4, [.ref xga_weekly, .ref xga_doubled, .ref xga_dueOn, .ref xga_owed, .ref xga_said, .ref xga_spared, .ref xga_leaveOf, .ref xga_leaveFrom, .ref xga_leaveTo, .int n1_a, .int 0])), (xga_weekly, .inl (cZ, 40, .inl f1_a)), (xga_doubled, .inl (cZ, 40, .inl f2_a)), (xga_dueOn, .inl (cI, 40, .inl f3_a))] := hD
      refine lv_aload_n hx hb dL_law_587 rfl (lv_at hl 1 rfl) ?_
      refine lv_aload_n hx hb dL_law_588 rfl (lv_at hl 3 rfl) ?_
      refine lv_iload_n hx hb dL_law_589 rfl (lv_at hl 0 rfl) ?_
      refine lv_iconst (v := 1) hx hb dL_law_590 (by decide) ?_
      refine lv_iadd hx hb dL_law_591 ?_
      refine lv_topi (fun x_29 ex_29 => ?_)
      obtain rfl : x_29 = 1 := by rw [ex_29]; decide
      refine va_sld hx hb hX hbl hbA hS (t_in (by omega) (by omega)) dL_law_592 ?_
      refine lv_if_eq (tgt := 600) hx hb dL_law_593 (by decide) (fun c_30 => ?_) (fun c_30 => ?_)
      · have tc_30 := t_eq c_30
        exact absurd c_30 c_2
      · have tc_30 := t_neq c_30
        refine lv_iconst (v := 1) hx hb dL_law_596 (by decide) ?_
        refine lv_goto (tgt := 601) hx hb dL_law_597 (by decide) ?_
        refine lv_aload_n hx hb dL_law_601 rfl (lv_at hl 3 rfl) ?_
        refine lv_iload_n hx hb dL_law_602 rfl (lv_at hl 0 rfl) ?_
        refine lv_iconst (v := 2) hx hb dL_law_603 (by decide) ?_
        refine lv_iadd hx hb dL_law_604 ?_
        refine lv_topi (fun x_31 ex_31 => ?_)
        obtain rfl : x_31 = 2 := by rw [ex_31]; decide
        refine va_sld hx hb hX hbl hbA hS (t_in (by omega) (by omega)) dL_law_605 ?_
        refine lv_aload_n hx hb dL_law_606 rfl (lv_at hl 3 rfl) ?_
        refine lv_iload_n hx hb dL_law_607 rfl (lv_at hl 0 rfl) ?_
        refine lv_iconst (v := 3) hx hb dL_law_608 (by decide) ?_
        refine lv_iadd hx hb dL_law_609 ?_
        refine lv_topi (fun x_32 ex_32 => ?_)
        obtain rfl : x_32 = 3 := by rw [ex_32]; decide
        refine va_sld hx hb hX hbl hbA hS (t_in (by omega) (by omega)) dL_law_610 ?_
        refine lv_if_eq (tgt := 618) hx hb dL_law_611 (by decide) (fun c_33 => ?_) (fun c_33 => ?_)
        · have tc_33 := t_eq c_33
          refine lv_iconst (v := 0) hx hb dL_law_618 (by decide) ?_
          have hPc := hP.sub (ws' := [(yh, .inr (11, [.int 0, .int 0, .int 0, .int 0, .int 0, .int 0, .int 0, .int 0, .int 0, .ref ya_isPriest, .ref ya_bars, .ref ya_joined, .ref ya_turns, .ref ya_awayMonk, .ref ya_awayFrom, .ref ya_awayTo, .ref ya_feastDay, .ref ya_rank, .ref ya_isWeekly, .ref ya_isDouble, .ref ya_giftDay, .ref ya_giftFrom, .ref ya_owed, .ref ya_said, .ref ya_spared, .ref ya_leaveGift, .ref ya_leaveFrom, .ref ya_leaveTo, .ref ya_lateDay, .ref ya_lateOffice, .ref ya_lateBy, .ref ya_guests, .ref ya_who, .ref ya_used, .ref ya_lacks, .ref ya_candles, .ref ya_masses, .ref ya_owing, .ref ya_heldOn, .ref ya_waits, .ref ya_tape, .ref ya_text, .int 0, .int 0, .int 0, .int (-1), .int 0, .ref ya_statements, .ref ya_taken, .ref ya_sort, .ref ya_first, .ref ya_second, .int 0, .int 0])), (ya_isWeekly, .inl (cZ, 40, .inl yf_isWeekly)), (ya_isDouble, .inl (cZ, 40, .inl yf_isDouble)), (ya_giftDay, .inl (cI, 40, .inl yf_giftDay)), (ya_giftFrom, .inl (cI, 40, .inl yf_giftFrom))]) [0, 1, 2, 3, 4] rfl
          refine rwV (As := [.int 1, .int (xs (2 : Int32).toNatClampNeg), .int 0]) (rest := [.int r_a]) (wc := [(yh, .inr (11, [.int 0, .int 0, .int 0, .int 0, .int 0, .int 0, .int 0, .int 0, .int 0, .ref ya_isPriest, .ref ya_bars, .ref ya_joined, .ref ya_turns, .ref ya_awayMonk, .ref ya_awayFrom, .ref ya_awayTo, .ref ya_feastDay, .ref ya_rank, .ref ya_isWeekly, .ref ya_isDouble, .ref ya_giftDay, .ref ya_giftFrom, .ref ya_owed, .ref ya_said, .ref ya_spared, .ref ya_leaveGift, .ref ya_leaveFrom, .ref ya_leaveTo, .ref ya_lateDay, .ref ya_lateOffice, .ref ya_lateBy, .ref ya_guests, .ref ya_who, .ref ya_used, .ref ya_lacks, .ref ya_candles, .ref ya_masses, .ref ya_owing, .ref ya_heldOn, .ref ya_waits, .ref ya_tape, .ref ya_text, .int 0, .int 0, .int 0, .int (-1), .int 0, .ref ya_statements, .ref ya_taken, .ref ya_sort, .ref ya_first, .ref ya_second, .int 0, .int 0])), (ya_isWeekly, .inl (cZ, 40, .inl yf_isWeekly)), (ya_isDouble, .inl (cZ, 40, .inl yf_isDouble)), (ya_giftDay, .inl (cI, 40, .inl yf_giftDay)), (ya_giftFrom, .inl (cI, 40, .inl yf_giftFrom))]) (wr := [(xh, .inr (10, [.ref xa_bells, .ref xa_feasts, .ref xa_tape, .ref xa_reader, .ref xa_rules, .ref xa_monks, .ref xa_duties, .ref xa_gifts, .ref xa_figures, .int 0, .int 0, .int 0, .int 0, .int (-1), .int 0])), (xa_gifts, .inr (4, [.ref xga_weekly, .ref xga_doubled, .ref xga_dueOn, .ref xga_owed, .ref xga_said, .ref xga_spared, .ref xga_leaveOf, .ref xga_leaveFrom, .ref xga_leaveTo, .int n1_a, .int 0])), (xga_weekly, .inl (cZ, 40, .inl f1_a)), (xga_doubled, .inl (cZ, 40, .inl f2_a)), (xga_dueOn, .inl (cI, 40, .inl f3_a))]) S (q_gift  ) (cwV 3 hts gL_law_X12_gift rfl rfl rfl (by decide +kernel) ⟨Nat.le_of_ble_eq_true rfl, Nat.le_of_ble_eq_true rfl⟩) hK hP hD hS hA [0, 1, 2, 3, 4] [5, 6, 7, 8, 9] rfl rfl (by decide) (by decide) (by decide) (va_recv hK.1 hPc (ci := 11) (q0 := 0) rfl rfl) rfl hl.1 rfl (Nat.le_of_ble_eq_true rfl) dL_law_619 ⟨Nat.le_of_ble_eq_true rfl, Nat.le_of_ble_eq_true rfl⟩ (fun r_b_ u_b_ H locs hw_b_ hP hD hS => ?_)
          obtain ⟨n1_b_, f1_b_, f2_b_, f3_b_, f4_b_⟩ := u_b_
          have hw_b_ : ((((1 : Int32).toInt ≠ 0 ∧ 0 ≤ (xs (2 : Int32).toNatClampNeg).toInt ∧ (xs (2 : Int32).toNatClampNeg).toInt ≤ 6) ∨ ((1 : Int32).toInt = 0 ∧ 0 ≤ (xs (2 : Int32).toNatClampNeg).toInt ∧ (xs (2 : Int32).toNatClampNeg).toInt ≤ 364)) → r_b_.toInt = 0) ∧ (¬ (((1 : Int32).toInt ≠ 0 ∧ 0 ≤ (xs (2 : Int32).toNatClampNeg).toInt ∧ (xs (2 : Int32).toNatClampNeg).toInt ≤ 6) ∨ ((1 : Int32).toInt = 0 ∧ 0 ≤ (xs (2 : Int32).toNatClampNeg).toInt ∧ (xs (2 : Int32).toNatClampNeg).toInt ≤ 364)) → r_b_.toInt = -1) := hw_b_
          have hP : va_P D vwCl [(xh, .inr (10, [.ref xa_bells, .ref xa_feasts, .ref xa_tape, .ref xa_reader, .ref xa_rules, .ref xa_monks, .ref xa_duties, .ref xa_gifts, .ref xa_figures, .int 0, .int 0, .int 0, .int 0, .int (-1), .int 0])), (xa_gifts, .inr (4, [.ref xga_weekly, .ref xga_doubled, .ref xga_dueOn, .ref xga_owed, .ref xga_said, .ref xga_spared, .ref xga_leaveOf, .ref xga_leaveFrom, .ref xga_leaveTo, .int n1_a, .int 0])), (xga_weekly, .inl (cZ, 40, .inl f1_a)), (xga_doubled, .inl (cZ, 40, .inl f2_a)), (xga_dueOn, .inl (cI, 40, .inl f3_a)), (yh, .inr (11, [.int 0, .int 0, .int 0, .int 0, .int n1_b_, .int 0, .int 0, .int 0, .int 0, .ref ya_isPriest, .ref ya_bars, .ref ya_joined, .ref ya_turns, .ref ya_awayMonk, .ref ya_awayFrom, .ref ya_awayTo, .ref ya_feastDay, .ref ya_rank, .ref ya_isWeekly, .ref ya_isDouble, .ref ya_giftDay, .ref ya_giftFrom, .ref ya_owed, .ref ya_said, .ref ya_spared, .ref ya_leaveGift, .ref ya_leaveFrom, .ref ya_leaveTo, .ref ya_lateDay, .ref ya_lateOffice, .ref ya_lateBy, .ref ya_guests, .ref ya_who, .ref ya_used, .ref ya_lacks, .ref ya_candles, .ref ya_masses, .ref ya_owing, .ref ya_heldOn, .ref ya_waits, .ref ya_tape, .ref ya_text, .int 0, .int 0, .int 0, .int (-1), .int 0, .ref ya_statements, .ref ya_taken, .ref ya_sort, .ref ya_first, .ref ya_second, .int 0, .int 0])), (ya_isWeekly, .inl (cZ, 40, .inl f1_b_)), (ya_isDouble, .inl (cZ, 40, .inl f3_b_)), (ya_giftDay, .inl (cI, 40, .inl f2_b_)), (ya_giftFrom, .inl (cI, 40, .inl f4_b_))] H := hP
          have hD : va_D A [(xh, .inr (10, [.ref xa_bells, .ref xa_feasts, .ref xa_tape, .ref xa_reader, .ref xa_rules, .ref xa_monks, .ref xa_duties, .ref xa_gifts, .ref xa_figures, .int 0, .int 0, .int 0, .int 0, .int (-1), .int 0])), (xa_gifts, .inr (4, [.ref xga_weekly, .ref xga_doubled, .ref xga_dueOn, .ref xga_owed, .ref xga_said, .ref xga_spared, .ref xga_leaveOf, .ref xga_leaveFrom, .ref xga_leaveTo, .int n1_a, .int 0])), (xga_weekly, .inl (cZ, 40, .inl f1_a)), (xga_doubled, .inl (cZ, 40, .inl f2_a)), (xga_dueOn, .inl (cI, 40, .inl f3_a)), (yh, .inr (11, [.int 0, .int 0, .int 0, .int 0, .int n1_b_, .int 0, .int 0, .int 0, .int 0, .ref ya_isPriest, .ref ya_bars, .ref ya_joined, .ref ya_turns, .ref ya_awayMonk, .ref ya_awayFrom, .ref ya_awayTo, .ref ya_feastDay, .ref ya_rank, .ref ya_isWeekly, .ref ya_isDouble, .ref ya_giftDay, .ref ya_giftFrom, .ref ya_owed, .ref ya_said, .ref ya_spared, .ref ya_leaveGift, .ref ya_leaveFrom, .ref ya_leaveTo, .ref ya_lateDay, .ref ya_lateOffice, .ref ya_lateBy, .ref ya_guests, .ref ya_who, .ref ya_used, .ref ya_lacks, .ref ya_candles, .ref ya_masses, .ref ya_owing, .ref ya_heldOn, .ref ya_waits, .ref ya_tape, .ref ya_text, .int 0, .int 0, .int 0, .int (-1), .int 0, .ref ya_statements, .ref ya_taken, .ref ya_sort, .ref ya_first, .ref ya_second, .int 0, .int 0])), (ya_isWeekly, .inl (cZ, 40, .inl f1_b_)), (ya_isDouble, .inl (cZ, 40, .inl f3_b_)), (ya_giftDay, .inl (cI, 40, .inl f2_b_)), (ya_giftFrom, .inl (cI, 40, .inl f4_b_))] := hD
          refine lv_icmp_eq (tgt := 917) hx hb dL_law_622 (by decide) (fun cmp => ?_) (fun cmp => ?_)
          · have tcmp := t_eq cmp
            obtain ⟨x_35, ex_35⟩ : ∃ y : Int32, y = 0 + 6 := ⟨_, rfl⟩
            obtain rfl : x_35 = 6 := by rw [ex_35]; decide
            refine lv_iinc (v := 6) (lv' := [(3, .int 6), (2, .ref yh), (1, .ref xh), (0, .ref b)]) hx hb dL_law_917 hl (k := 0) rfl (by decide) (by decide) rfl (fun ls hl => ?_)
            refine lv_goto (tgt := 18) hx hb dL_law_920 (by decide) ?_
            refine lv_iload_n hx hb dL_law_18 rfl (lv_at hl 0 rfl) ?_
            refine lv_aload_n hx hb dL_law_19 rfl (lv_at hl 3 rfl) ?_
            refine va_slen hx hb hX hbl hbA hS dL_law_20 ?_
            refine lv_topi (fun x_36 ex_36 => ?_)
            have tx_36 : x_36.toInt = L := by rw [ex_36]; exact nI_toInt (by omega)
            refine lv_bipush (v := 6) hx hb dL_law_21 (by decide) ?_
            refine lv_isub hx hb dL_law_23 ?_
            refine lv_topi (fun x_37 ex_37 => ?_)
            first | have tx_37 := t_sub ex_37 (by omega) (by omega) | skip
            refine lv_icmp_gt (tgt := 923) hx hb dL_law_24 (by decide) (fun c_38 => ?_) (fun c_38 => ?_)
            · have tc_38 := t_lt c_38
              refine lv_iconst (v := 1) hx hb dL_law_923 (by decide) ?_
              refine va_forget (fun q hq => hAs _ (hS.2.2 q hq)) ?_
              refine W.widen (k := 600000) (n := 7302250) (Nat.le_of_ble_eq_true rfl) (Nat.le_of_ble_eq_true rfl) ?_
              exact lw_ret hx hb hr hlocks dL_law_924
            · have tc_38 := t_nlt c_38
              exfalso; omega
          · have tcmp := t_neq cmp
            exact absurd (Int32.toInt_inj.mp (by omega)) cmp
        · have tc_33 := t_neq c_33
          exact absurd c_28 c_33
    · have tc_28 := t_neq c_28
      refine lv_iconst (v := 1) hx hb dL_law_579 (by decide) ?_
      refine lv_goto (tgt := 584) hx hb dL_law_580 (by decide) ?_
      have hPc := hP.sub (ws' := [(xh, .inr (10, [.ref xa_bells, .ref xa_feasts, .ref xa_tape, .ref xa_reader, .ref xa_rules, .ref xa_monks, .ref xa_duties, .ref xa_gifts, .ref xa_figures, .int 0, .int 0, .int 0, .int 0, .int (-1), .int 0])), (xa_gifts, .inr (4, [.ref xga_weekly, .ref xga_doubled, .ref xga_dueOn, .ref xga_owed, .ref xga_said, .ref xga_spared, .ref xga_leaveOf, .ref xga_leaveFrom, .ref xga_leaveTo, .int 0, .int 0])), (xga_weekly, .inl (cZ, 40, .inl xgf_weekly)), (xga_doubled, .inl (cZ, 40, .inl xgf_doubled)), (xga_dueOn, .inl (cI, 40, .inl xgf_dueOn))]) [0, 1, 2, 3, 4] rfl
      refine rwV (As := [.int 1, .int (xs (2 : Int32).toNatClampNeg), .int 1]) (rest := []) (wc := [(xh, .inr (10, [.ref xa_bells, .ref xa_feasts, .ref xa_tape, .ref xa_reader, .ref xa_rules, .ref xa_monks, .ref xa_duties, .ref xa_gifts, .ref xa_figures, .int 0, .int 0, .int 0, .int 0, .int (-1), .int 0])), (xa_gifts, .inr (4, [.ref xga_weekly, .ref xga_doubled, .ref xga_dueOn, .ref xga_owed, .ref xga_said, .ref xga_spared, .ref xga_leaveOf, .ref xga_leaveFrom, .ref xga_leaveTo, .int 0, .int 0])), (xga_weekly, .inl (cZ, 40, .inl xgf_weekly)), (xga_doubled, .inl (cZ, 40, .inl xgf_doubled)), (xga_dueOn, .inl (cI, 40, .inl xgf_dueOn))]) (wr := [(yh, .inr (11, [.int 0, .int 0, .int 0, .int 0, .int 0, .int 0, .int 0, .int 0, .int 0, .ref ya_isPriest, .ref ya_bars, .ref ya_joined, .ref ya_turns, .ref ya_awayMonk, .ref ya_awayFrom, .ref ya_awayTo, .ref ya_feastDay, .ref ya_rank, .ref ya_isWeekly, .ref ya_isDouble, .ref ya_giftDay, .ref ya_giftFrom, .ref ya_owed, .ref ya_said, .ref ya_spared, .ref ya_leaveGift, .ref ya_leaveFrom, .ref ya_leaveTo, .ref ya_lateDay, .ref ya_lateOffice, .ref ya_lateBy, .ref ya_guests, .ref ya_who, .ref ya_used, .ref ya_lacks, .ref ya_candles, .ref ya_masses, .ref ya_owing, .ref ya_heldOn, .ref ya_waits, .ref ya_tape, .ref ya_text, .int 0, .int 0, .int 0, .int (-1), .int 0, .ref ya_statements, .ref ya_taken, .ref ya_sort, .ref ya_first, .ref ya_second, .int 0, .int 0])), (ya_isWeekly, .inl (cZ, 40, .inl yf_isWeekly)), (ya_isDouble, .inl (cZ, 40, .inl yf_isDouble)), (ya_giftDay, .inl (cI, 40, .inl yf_giftDay)), (ya_giftFrom, .inl (cI, 40, .inl yf_giftFrom))]) S (p_gift  ) (cwV 3 hts gL_law_X11_gift rfl rfl rfl (by decide +kernel) ⟨Nat.le_of_ble_eq_true rfl, Nat.le_of_ble_eq_true rfl⟩) hK hP hD hS hA [0, 1, 2, 3, 4] [5, 6, 7, 8, 9] rfl rfl (by decide) (by decide) (by decide) (va_recv hK.1 hPc (ci := 10) (q0 := 0) rfl rfl) rfl hl.1 rfl (Nat.le_of_ble_eq_true rfl) dL_law_584 ⟨Nat.le_of_ble_eq_true rfl, Nat.le_of_ble_eq_true rfl⟩ (fun r_a u_a H locs hw_a hP hD hS => ?_)
      obtain ⟨n1_a, f1_a, f2_a, f3_a⟩ := u_a
      have hw_a : ((((1 : Int32).toInt ≠ 0 ∧ 0 ≤ (xs (2 : Int32).toNatClampNeg).toInt ∧ (xs (2 : Int32).toNatClampNeg).toInt ≤ 6) ∨ ((1 : Int32).toInt = 0 ∧ 0 ≤ (xs (2 : Int32).toNatClampNeg).toInt ∧ (xs (2 : Int32).toNatClampNeg).toInt ≤ 364)) → r_a.toInt = 0) ∧ (¬ (((1 : Int32).toInt ≠ 0 ∧ 0 ≤ (xs (2 : Int32).toNatClampNeg).toInt ∧ (xs (2 : Int32).toNatClampNeg).toInt ≤ 6) ∨ ((1 : Int32).toInt = 0 ∧ 0 ≤ (xs (2 : Int32).toNatClampNeg).toInt ∧ (xs (2 : Int32).toNatClampNeg).toInt ≤ 364)) → r_a.toInt = -1) := hw_a
      have hP : va_P D vwCl [(yh, .inr (11, [.int 0, .int 0, .int 0, .int 0, .int 0, .int 0, .int 0, .int 0, .int 0, .ref ya_isPriest, .ref ya_bars, .ref ya_joined, .ref ya_turns, .ref ya_awayMonk, .ref ya_awayFrom, .ref ya_awayTo, .ref ya_feastDay, .ref ya_rank, .ref ya_isWeekly, .ref ya_isDouble, .ref ya_giftDay, .ref ya_giftFrom, .ref ya_owed, .ref ya_said, .ref ya_spared, .ref ya_leaveGift, .ref ya_leaveFrom, .ref ya_leaveTo, .ref ya_lateDay, .ref ya_lateOffice, .ref ya_lateBy, .ref ya_guests, .ref ya_who, .ref ya_used, .ref ya_lacks, .ref ya_candles, .ref ya_masses, .ref ya_owing, .ref ya_heldOn, .ref ya_waits, .ref ya_tape, .ref ya_text, .int 0, .int 0, .int 0, .int (-1), .int 0, .ref ya_statements, .ref ya_taken, .ref ya_sort, .ref ya_first, .ref ya_second, .int 0, .int 0])), (ya_isWeekly, .inl (cZ, 40, .inl yf_isWeekly)), (ya_isDouble, .inl (cZ, 40, .inl yf_isDouble)), (ya_giftDay, .inl (cI, 40, .inl yf_giftDay)), (ya_giftFrom, .inl (cI, 40, .inl yf_giftFrom)), (xh, .inr (10, [.ref xa_bells, .ref xa_feasts, .ref xa_tape, .ref xa_reader, .ref xa_rules, .ref xa_monks, .ref xa_duties, .ref xa_gifts, .ref xa_figures, .int 0, .int 0, .int 0, .int 0, .int (-1), .int 0])), (xa_gifts, .inr (4, [.ref xga_weekly, .ref xga_doubled, .ref xga_dueOn, .ref xga_owed, .ref xga_said, .ref xga_spared, .ref xga_leaveOf, .ref xga_leaveFrom, .ref xga_leaveTo, .int n1_a, .int 0])), (xga_weekly, .inl (cZ, 40, .inl f1_a)), (xga_doubled, .inl (cZ, 40, .inl f2_a)), (xga_dueOn, .inl (cI, 40, .inl f3_a))] H := hP
      have hD : va_D A [(yh, .inr (11, [.int 0, .int 0, .int 0, .int 0, .int 0, .int 0, .int 0, .int 0, .int 0, .ref ya_isPriest, .ref ya_bars, .ref ya_joined, .ref ya_turns, .ref ya_awayMonk, .ref ya_awayFrom, .ref ya_awayTo, .ref ya_feastDay, .ref ya_rank, .ref ya_isWeekly, .ref ya_isDouble, .ref ya_giftDay, .ref ya_giftFrom, .ref ya_owed, .ref ya_said, .ref ya_spared, .ref ya_leaveGift, .ref ya_leaveFrom, .ref ya_leaveTo, .ref ya_lateDay, .ref ya_lateOffice, .ref ya_lateBy, .ref ya_guests, .ref ya_who, .ref ya_used, .ref ya_lacks, .ref ya_candles, .ref ya_masses, .ref ya_owing, .ref ya_heldOn, .ref ya_waits, .ref ya_tape, .ref ya_text, .int 0, .int 0, .int 0, .int (-1), .int 0, .ref ya_statements, .ref ya_taken, .ref ya_sort, .ref ya_first, .ref ya_second, .int 0, .int 0])), (ya_isWeekly, .inl (cZ, 40, .inl yf_isWeekly)), (ya_isDouble, .inl (cZ, 40, .inl yf_isDouble)), (ya_giftDay, .inl (cI, 40, .inl yf_giftDay)), (ya_giftFrom, .inl (cI, 40, .inl yf_giftFrom)), (xh, .inr (10, [.ref xa_bells, .ref xa_feasts, .ref xa_tape, .ref xa_reader, .ref xa_rules, .ref xa_monks, .ref xa_duties, .ref xa_gifts, .ref xa_figures, .int 0, .int 0, .int 0, .int 0, .int (-1), .int 0])), (xa_gifts, .inr (4, [.ref xga_weekly, .ref xga_doubled, .ref xga_dueOn, .ref xga_owed, .ref xga_said, .ref xga_spared, .ref xga_leaveOf, .ref xga_leaveFrom, .ref xga_leaveTo, .int n1_a, .int 0])), (xga_weekly, .inl (cZ, 40, .inl f1_a)), (xga_doubled, .inl (cZ, 40, .inl f2_a)), (xga_dueOn, .inl (cI, 40, .inl f3_a))] := hD
      refine lv_aload_n hx hb dL_law_587 rfl (lv_at hl 1 rfl) ?_
      refine lv_aload_n hx hb dL_law_588 rfl (lv_at hl 3 rfl) ?_
      refine lv_iload_n hx hb dL_law_589 rfl (lv_at hl 0 rfl) ?_
      refine lv_iconst (v := 1) hx hb dL_law_590 (by decide) ?_
      refine lv_iadd hx hb dL_law_591 ?_
      refine lv_topi (fun x_39 ex_39 => ?_)
      obtain rfl : x_39 = 1 := by rw [ex_39]; decide
      refine va_sld hx hb hX hbl hbA hS (t_in (by omega) (by omega)) dL_law_592 ?_
      refine lv_if_eq (tgt := 600) hx hb dL_law_593 (by decide) (fun c_40 => ?_) (fun c_40 => ?_)
      · have tc_40 := t_eq c_40
        exact absurd c_40 c_2
      · have tc_40 := t_neq c_40
        refine lv_iconst (v := 1) hx hb dL_law_596 (by decide) ?_
        refine lv_goto (tgt := 601) hx hb dL_law_597 (by decide) ?_
        refine lv_aload_n hx hb dL_law_601 rfl (lv_at hl 3 rfl) ?_
        refine lv_iload_n hx hb dL_law_602 rfl (lv_at hl 0 rfl) ?_
        refine lv_iconst (v := 2) hx hb dL_law_603 (by decide) ?_
        refine lv_iadd hx hb dL_law_604 ?_
        refine lv_topi (fun x_41 ex_41 => ?_)
        obtain rfl : x_41 = 2 := by rw [ex_41]; decide
        refine va_sld hx hb hX hbl hbA hS (t_in (by omega) (by omega)) dL_law_605 ?_
        refine lv_aload_n hx hb dL_law_606 rfl (lv_at hl 3 rfl) ?_
        refine lv_iload_n hx hb dL_law_607 rfl (lv_at hl 0 rfl) ?_
        refine lv_iconst (v := 3) hx hb dL_law_608 (by decide) ?_
        refine lv_iadd hx hb dL_law_609 ?_
        refine lv_topi (fun x_42 ex_42 => ?_)
        obtain rfl : x_42 = 3 := by rw [ex_42]; decide
        refine va_sld hx hb hX hbl hbA hS (t_in (by omega) (by omega)) dL_law_610 ?_
        refine lv_if_eq (tgt := 618) hx hb dL_law_611 (by decide) (fun c_43 => ?_) (fun c_43 => ?_)
        · have tc_43 := t_eq c_43
          exact absurd c_43 c_28
        · have tc_43 := t_neq c_43
          refine lv_iconst (v := 1) hx hb dL_law_614 (by decide) ?_
          refine lv_goto (tgt := 619) hx hb dL_law_615 (by decide) ?_
          have hPc := hP.sub (ws' := [(yh, .inr (11, [.int 0, .int 0, .int 0, .int 0, .int 0, .int 0, .int 0, .int 0, .int 0, .ref ya_isPriest, .ref ya_bars, .ref ya_joined, .ref ya_turns, .ref ya_awayMonk, .ref ya_awayFrom, .ref ya_awayTo, .ref ya_feastDay, .ref ya_rank, .ref ya_isWeekly, .ref ya_isDouble, .ref ya_giftDay, .ref ya_giftFrom, .ref ya_owed, .ref ya_said, .ref ya_spared, .ref ya_leaveGift, .ref ya_leaveFrom, .ref ya_leaveTo, .ref ya_lateDay, .ref ya_lateOffice, .ref ya_lateBy, .ref ya_guests, .ref ya_who, .ref ya_used, .ref ya_lacks, .ref ya_candles, .ref ya_masses, .ref ya_owing, .ref ya_heldOn, .ref ya_waits, .ref ya_tape, .ref ya_text, .int 0, .int 0, .int 0, .int (-1), .int 0, .ref ya_statements, .ref ya_taken, .ref ya_sort, .ref ya_first, .ref ya_second, .int 0, .int 0])), (ya_isWeekly, .inl (cZ, 40, .inl yf_isWeekly)), (ya_isDouble, .inl (cZ, 40, .inl yf_isDouble)), (ya_giftDay, .inl (cI, 40, .inl yf_giftDay)), (ya_giftFrom, .inl (cI, 40, .inl yf_giftFrom))]) [0, 1, 2, 3, 4] rfl
          refine rwV (As := [.int 1, .int (xs (2 : Int32).toNatClampNeg), .int 1]) (rest := [.int r_a]) (wc := [(yh, .inr (11, [.int 0, .int 0, .int 0, .int 0, .int 0, .int 0, .int 0, .int 0, .int 0, .ref ya_isPriest, .ref ya_bars, .ref ya_joined, .ref ya_turns, .ref ya_awayMonk, .ref ya_awayFrom, .ref ya_awayTo, .ref ya_feastDay, .ref ya_rank, .ref ya_isWeekly, .ref ya_isDouble, .ref ya_giftDay, .ref ya_giftFrom, .ref ya_owed, .ref ya_said, .ref ya_spared, .ref ya_leaveGift, .ref ya_leaveFrom, .ref ya_leaveTo, .ref ya_lateDay, .ref ya_lateOffice, .ref ya_lateBy, .ref ya_guests, .ref ya_who, .ref ya_used, .ref ya_lacks, .ref ya_candles, .ref ya_masses, .ref ya_owing, .ref ya_heldOn, .ref ya_waits, .ref ya_tape, .ref ya_text, .int 0, .int 0, .int 0, .int (-1), .int 0, .ref ya_statements, .ref ya_taken, .ref ya_sort, .ref ya_first, .ref ya_second, .int 0, .int 0])), (ya_isWeekly, .inl (cZ, 40, .inl yf_isWeekly)), (ya_isDouble, .inl (cZ, 40, .inl yf_isDouble)), (ya_giftDay, .inl (cI, 40, .inl yf_giftDay)), (ya_giftFrom, .inl (cI, 40, .inl yf_giftFrom))]) (wr := [(xh, .inr (10, [.ref xa_bells, .ref xa_feasts, .ref xa_tape, .ref xa_reader, .ref xa_rules, .ref xa_monks, .ref xa_duties, .ref xa_gifts, .ref xa_figures, .int 0, .int 0, .int 0, .int 0, .int (-1), .int 0])), (xa_gifts, .inr (4, [.ref xga_weekly, .ref xga_doubled, .ref xga_dueOn, .ref xga_owed, .ref xga_said, .ref xga_spared, .ref xga_leaveOf, .ref xga_leaveFrom, .ref xga_leaveTo, .int n1_a, .int 0])), (xga_weekly, .inl (cZ, 40, .inl f1_a)), (xga_doubled, .inl (cZ, 40, .inl f2_a)), (xga_dueOn, .inl (cI, 40, .inl f3_a))]) S (q_gift  ) (cwV 3 hts gL_law_X12_gift rfl rfl rfl (by decide +kernel) ⟨Nat.le_of_ble_eq_true rfl, Nat.le_of_ble_eq_true rfl⟩) hK hP hD hS hA [0, 1, 2, 3, 4] [5, 6, 7, 8, 9] rfl rfl (by decide) (by decide) (by decide) (va_recv hK.1 hPc (ci := 11) (q0 := 0) rfl rfl) rfl hl.1 rfl (Nat.le_of_ble_eq_true rfl) dL_law_619 ⟨Nat.le_of_ble_eq_true rfl, Nat.le_of_ble_eq_true rfl⟩ (fun r_b_ u_b_ H locs hw_b_ hP hD hS => ?_)
          obtain ⟨n1_b_, f1_b_, f2_b_, f3_b_, f4_b_⟩ := u_b_
          have hw_b_ : ((((1 : Int32).toInt ≠ 0 ∧ 0 ≤ (xs (2 : Int32).toNatClampNeg).toInt ∧ (xs (2 : Int32).toNatClampNeg).toInt ≤ 6) ∨ ((1 : Int32).toInt = 0 ∧ 0 ≤ (xs (2 : Int32).toNatClampNeg).toInt ∧ (xs (2 : Int32).toNatClampNeg).toInt ≤ 364)) → r_b_.toInt = 0) ∧ (¬ (((1 : Int32).toInt ≠ 0 ∧ 0 ≤ (xs (2 : Int32).toNatClampNeg).toInt ∧ (xs (2 : Int32).toNatClampNeg).toInt ≤ 6) ∨ ((1 : Int32).toInt = 0 ∧ 0 ≤ (xs (2 : Int32).toNatClampNeg).toInt ∧ (xs (2 : Int32).toNatClampNeg).toInt ≤ 364)) → r_b_.toInt = -1) := hw_b_
          have hP : va_P D vwCl [(xh, .inr (10, [.ref xa_bells, .ref xa_feasts, .ref xa_tape, .ref xa_reader, .ref xa_rules, .ref xa_monks, .ref xa_duties, .ref xa_gifts, .ref xa_figures, .int 0, .int 0, .int 0, .int 0, .int (-1), .int 0])), (xa_gifts, .inr (4, [.ref xga_weekly, .ref xga_doubled, .ref xga_dueOn, .ref xga_owed, .ref xga_said, .ref xga_spared, .ref xga_leaveOf, .ref xga_leaveFrom, .ref xga_leaveTo, .int n1_a, .int 0])), (xga_weekly, .inl (cZ, 40, .inl f1_a)), (xga_doubled, .inl (cZ, 40, .inl f2_a)), (xga_dueOn, .inl (cI, 40, .inl f3_a)), (yh, .inr (11, [.int 0, .int 0, .int 0, .int 0, .int n1_b_, .int 0, .int 0, .int 0, .int 0, .ref ya_isPriest, .ref ya_bars, .ref ya_joined, .ref ya_turns, .ref ya_awayMonk, .ref ya_awayFrom, .ref ya_awayTo, .ref ya_feastDay, .ref ya_rank, .ref ya_isWeekly, .ref ya_isDouble, .ref ya_giftDay, .ref ya_giftFrom, .ref ya_owed, .ref ya_said, .ref ya_spared, .ref ya_leaveGift, .ref ya_leaveFrom, .ref ya_leaveTo, .ref ya_lateDay, .ref ya_lateOffice, .ref ya_lateBy, .ref ya_guests, .ref ya_who, .ref ya_used, .ref ya_lacks, .ref ya_candles, .ref ya_masses, .ref ya_owing, .ref ya_heldOn, .ref ya_waits, .ref ya_tape, .ref ya_text, .int 0, .int 0, .int 0, .int (-1), .int 0, .ref ya_statements, .ref ya_taken, .ref ya_sort, .ref ya_first, .ref ya_second, .int 0, .int 0])), (ya_isWeekly, .inl (cZ, 40, .inl f1_b_)), (ya_isDouble, .inl (cZ, 40, .inl f3_b_)), (ya_giftDay, .inl (cI, 40, .inl f2_b_)), (ya_giftFrom, .inl (cI, 40, .inl f4_b_))] H := hP
          have hD : va_D A [(xh, .inr (10, [.ref xa_bells, .ref xa_feasts, .ref xa_tape, .ref xa_reader, .ref xa_rules, .ref xa_monks, .ref xa_duties, .ref xa_gifts, .ref xa_figures, .int 0, .int 0, .int 0, .int 0, .int (-1), .int 0])), (xa_gifts, .inr (4, [.ref xga_weekly, .ref xga_doubled, .ref xga_dueOn, .ref xga_owed, .ref xga_said, .ref xga_spared, .ref xga_leaveOf, .ref xga_leaveFrom, .ref xga_leaveTo, .int n1_a, .int 0])), (xga_weekly, .inl (cZ, 40, .inl f1_a)), (xga_doubled, .inl (cZ, 40, .inl f2_a)), (xga_dueOn, .inl (cI, 40, .inl f3_a)), (yh, .inr (11, [.int 0, .int 0, .int 0, .int 0, .int n1_b_, .int 0, .int 0, .int 0, .int 0, .ref ya_isPriest, .ref ya_bars, .ref ya_joined, .ref ya_turns, .ref ya_awayMonk, .ref ya_awayFrom, .ref ya_awayTo, .ref ya_feastDay, .ref ya_rank, .ref ya_isWeekly, .ref ya_isDouble, .ref ya_giftDay, .ref ya_giftFrom, .ref ya_owed, .ref ya_said, .ref ya_spared, .ref ya_leaveGift, .ref ya_leaveFrom, .ref ya_leaveTo, .ref ya_lateDay, .ref ya_lateOffice, .ref ya_lateBy, .ref ya_guests, .ref ya_who, .ref ya_used, .ref ya_lacks, .ref ya_candles, .ref ya_masses, .ref ya_owing, .ref ya_heldOn, .ref ya_waits, .ref ya_tape, .ref ya_text, .int 0, .int 0, .int 0, .int (-1), .int 0, .ref ya_statements, .ref ya_taken, .ref ya_sort, .ref ya_first, .ref ya_second, .int 0, .int 0])), (ya_isWeekly, .inl (cZ, 40, .inl f1_b_)), (ya_isDouble, .inl (cZ, 40, .inl f3_b_)), (ya_giftDay, .inl (cI, 40, .inl f2_b_)), (ya_giftFrom, .inl (cI, 40, .inl f4_b_))] := hD
          refine lv_icmp_eq (tgt := 917) hx hb dL_law_622 (by decide) (fun cmp => ?_) (fun cmp => ?_)
          · have tcmp := t_eq cmp
            obtain ⟨x_45, ex_45⟩ : ∃ y : Int32, y = 0 + 6 := ⟨_, rfl⟩
            obtain rfl : x_45 = 6 := by rw [ex_45]; decide
            refine lv_iinc (v := 6) (lv' := [(3, .int 6), (2, .ref yh), (1, .ref xh), (0, .ref b)]) hx hb dL_law_917 hl (k := 0) rfl (by decide) (by decide) rfl (fun ls hl => ?_)
            refine lv_goto (tgt := 18) hx hb dL_law_920 (by decide) ?_
            refine lv_iload_n hx hb dL_law_18 rfl (lv_at hl 0 rfl) ?_
            refine lv_aload_n hx hb dL_law_19 rfl (lv_at hl 3 rfl) ?_
            refine va_slen hx hb hX hbl hbA hS dL_law_20 ?_
            refine lv_topi (fun x_46 ex_46 => ?_)
            have tx_46 : x_46.toInt = L := by rw [ex_46]; exact nI_toInt (by omega)
            refine lv_bipush (v := 6) hx hb dL_law_21 (by decide) ?_
            refine lv_isub hx hb dL_law_23 ?_
            refine lv_topi (fun x_47 ex_47 => ?_)
            first | have tx_47 := t_sub ex_47 (by omega) (by omega) | skip
            refine lv_icmp_gt (tgt := 923) hx hb dL_law_24 (by decide) (fun c_48 => ?_) (fun c_48 => ?_)
            · have tc_48 := t_lt c_48
              refine lv_iconst (v := 1) hx hb dL_law_923 (by decide) ?_
              refine va_forget (fun q hq => hAs _ (hS.2.2 q hq)) ?_
              refine W.widen (k := 600000) (n := 7302250) (Nat.le_of_ble_eq_true rfl) (Nat.le_of_ble_eq_true rfl) ?_
              exact lw_ret hx hb hr hlocks dL_law_924
            · have tc_48 := t_nlt c_48
              exfalso; omega
          · have tcmp := t_neq cmp
            exact absurd (Int32.toInt_inj.mp (by omega)) cmp

set_option maxHeartbeats 8000000 in
set_option maxRecDepth 100000 in
theorem law_case13 {p : Program} {e : Env} {s : State} {m : MethodId} {below : List Frame} {meth : Method} {c : Code} {l : Launch} {b L : Nat} {xs : Nat → Int32} {D : va_G} {cI cZ cB : ClassId} {A : Nat → Prop} {xh xa_bells xa_feasts xa_tape xa_reader xa_rules xa_monks xa_duties xa_gifts xa_figures xga_weekly xga_doubled xga_dueOn xga_owed xga_said xga_spared xga_leaveOf xga_leaveFrom xga_leaveTo yh ya_isPriest ya_bars ya_joined ya_turns ya_awayMonk ya_awayFrom ya_awayTo ya_feastDay ya_rank ya_isWeekly ya_isDouble ya_giftDay ya_giftFrom ya_owed ya_said ya_spared ya_leaveGift ya_leaveFrom ya_leaveTo ya_lateDay ya_lateOffice ya_lateBy ya_guests ya_who ya_used ya_lacks ya_candles ya_masses ya_owing ya_heldOn ya_waits ya_tape ya_text ya_statements ya_taken ya_sort ya_first ya_second : Nat}  (hx : p.tables.exec = Jvm.exec) (hb : c.code = cL_law) (hr : meth.sig.returnType = ret) (hml : c.maxLocals = 4) (hown : s.vm.findClass RL = some m.cls) (hts0 : ∀ w ∈ lw_tbl, w.before #[Value.ref b] s = true) (hX : va_X b L xs s s.heap) (hbl : b < s.heap.size) (hlocks : meth.locks = false) (hK : KK D cI cZ cB s) (hA : ∀ q : Nat, s.heap.size ≤ q → A q) (hAs : ∀ q : Nat, A q → s.heap.size ≤ q) (hbA : ¬ A b) (hL : L ≤ 6) (h6 : 6 ≤ L) {H : Heap} {locs : List Loc} (hP : va_P D vwCl [(xh, .inr (10, [.ref xa_bells, .ref xa_feasts, .ref xa_tape, .ref xa_reader, .ref xa_rules, .ref xa_monks, .ref xa_duties, .ref xa_gifts, .ref xa_figures, .int 0, .int 0, .int 0, .int 0, .int (-1), .int 0])), (xa_gifts, .inr (4, [.ref xga_weekly, .ref xga_doubled, .ref xga_dueOn, .ref xga_owed, .ref xga_said, .ref xga_spared, .ref xga_leaveOf, .ref xga_leaveFrom, .ref xga_leaveTo, .int 0, .int 0])), (yh, .inr (11, [.int 0, .int 0, .int 0, .int 0, .int 0, .int 0, .int 0, .int 0, .int 0, .ref ya_isPriest, .ref ya_bars, .ref ya_joined, .ref ya_turns, .ref ya_awayMonk, .ref ya_awayFrom, .ref ya_awayTo, .ref ya_feastDay, .ref ya_rank, .ref ya_isWeekly, .ref ya_isDouble, .ref ya_giftDay, .ref ya_giftFrom, .ref ya_owed, .ref ya_said, .ref ya_spared, .ref ya_leaveGift, .ref ya_leaveFrom, .ref ya_leaveTo, .ref ya_lateDay, .ref ya_lateOffice, .ref ya_lateBy, .ref ya_guests, .ref ya_who, .ref ya_used, .ref ya_lacks, .ref ya_candles, .ref ya_masses, .ref ya_owing, .ref ya_heldOn, .ref ya_waits, .ref ya_tape, .ref ya_text, .int 0, .int 0, .int 0, .int (-1), .int 0, .ref ya_statements, .ref ya_taken, .ref ya_sort, .ref ya_first, .ref ya_second, .int 0, .int 0]))] H) (hD : va_D A [(xh, .inr (10, [.ref xa_bells, .ref xa_feasts, .ref xa_tape, .ref xa_reader, .ref xa_rules, .ref xa_monks, .ref xa_duties, .ref xa_gifts, .ref xa_figures, .int 0, .int 0, .int 0, .int 0, .int (-1), .int 0])), (xa_gifts, .inr (4, [.ref xga_weekly, .ref xga_doubled, .ref xga_dueOn, .ref xga_owed, .ref xga_said, .ref xga_spared, .ref xga_leaveOf, .ref xga_leaveFrom, .ref xga_leaveTo, .int 0, .int 0])), (yh, .inr (11, [.int 0, .int 0, .int 0, .int 0, .int 0, .int 0, .int 0, .int 0, .int 0, .ref ya_isPriest, .ref ya_bars, .ref ya_joined, .ref ya_turns, .ref ya_awayMonk, .ref ya_awayFrom, .ref ya_awayTo, .ref ya_feastDay, .ref ya_rank, .ref ya_isWeekly, .ref ya_isDouble, .ref ya_giftDay, .ref ya_giftFrom, .ref ya_owed, .ref ya_said, .ref ya_spared, .ref ya_leaveGift, .ref ya_leaveFrom, .ref ya_leaveTo, .ref ya_lateDay, .ref ya_lateOffice, .ref ya_lateBy, .ref ya_guests, .ref ya_who, .ref ya_used, .ref ya_lacks, .ref ya_candles, .ref ya_masses, .ref ya_owing, .ref ya_heldOn, .ref ya_waits, .ref ya_tape, .ref ya_text, .int 0, .int 0, .int 0, .int (-1), .int 0, .ref ya_statements, .ref ya_taken, .ref ya_sort, .ref ya_first, .ref ya_second, .int 0, .int 0]))]) (hS : va_S A s.heap H locs) (ls : Array Slot) (hl : lv_has ls 4 [(3, .int 0), (2, .ref yh), (1, .ref xh), (0, .ref b)]) : W p l e room_1 s m #[Value.ref b] below meth c H locs 90 16895 (lw_Z below #[Value.ref b] s) (F0 m 627 ls []) := by
  have hts : ∀ w ∈ wsL_law, w.before #[Value.ref b] s = true := fun w h => hts0 w (wsL_law_in w h)
  have S : CallFix p m c cL_law 4 s #[Value.ref b] wsL_law RL := ⟨hx, hb, hml, hown, hts⟩
  have kk0 : (0 : Int32).toInt = 0 := by decide
  have kk1 : (1 : Int32).toInt = 1 := by decide
  have kk2 : (2 : Int32).toInt = 2 := by decide
  have kk3 : (3 : Int32).toInt = 3 := by decide
  have kk4 : (4 : Int32).toInt = 4 := by decide
  have kk5 : (5 : Int32).toInt = 5 := by decide
  have kk6 : (6 : Int32).toInt = 6 := by decide
  have kk31 : (31 : Int32).toInt = 31 := by decide
  have kkm1 : (-1 : Int32).toInt = -1 := by decide
  refine lv_aload_n hx hb dL_law_627 rfl (lv_at hl 2 rfl) ?_
  refine lv_aload_n hx hb dL_law_628 rfl (lv_at hl 3 rfl) ?_
  refine lv_iload_n hx hb dL_law_629 rfl (lv_at hl 0 rfl) ?_
  refine lv_iconst (v := 1) hx hb dL_law_630 (by decide) ?_
  refine lv_iadd hx hb dL_law_631 ?_
  refine lv_topi (fun x_1 ex_1 => ?_)
  obtain rfl : x_1 = 1 := by rw [ex_1]; decide
  refine va_sld hx hb hX hbl hbA hS (t_in (by omega) (by omega)) dL_law_632 ?_
  refine lv_aload_n hx hb dL_law_633 rfl (lv_at hl 3 rfl) ?_
  refine lv_iload_n hx hb dL_law_634 rfl (lv_at hl 0 rfl) ?_
  refine lv_iconst (v := 2) hx hb dL_law_635 (by decide) ?_
  refine lv_iadd hx hb dL_law_636 ?_
  refine lv_topi (fun x_2 ex_2 => ?_)
  obtain rfl : x_2 = 2 := by rw [ex_2]; decide
  refine va_sld hx hb hX hbl hbA hS (t_in (by omega) (by omega)) dL_law_637 ?_
  refine lv_aload_n hx hb dL_law_638 rfl (lv_at hl 3 rfl) ?_
  refine lv_iload_n hx hb dL_law_639 rfl (lv_at hl 0 rfl) ?_
  refine lv_iconst (v := 3) hx hb dL_law_640 (by decide) ?_
  refine lv_iadd hx hb dL_law_641 ?_
  refine lv_topi (fun x_3 ex_3 => ?_)
  obtain rfl : x_3 = 3 := by rw [ex_3]; decide
  refine va_sld hx hb hX hbl hbA hS (t_in (by omega) (by omega)) dL_law_642 ?_
  have hPc := hP.sub (ws' := [(xh, .inr (10, [.ref xa_bells, .ref xa_feasts, .ref xa_tape, .ref xa_reader, .ref xa_rules, .ref xa_monks, .ref xa_duties, .ref xa_gifts, .ref xa_figures, .int 0, .int 0, .int 0, .int 0, .int (-1), .int 0])), (xa_gifts, .inr (4, [.ref xga_weekly, .ref xga_doubled, .ref xga_dueOn, .ref xga_owed, .ref xga_said, .ref xga_spared, .ref xga_leaveOf, .ref xga_leaveFrom, .ref xga_leaveTo, .int 0, .int 0]))]) [0, 1] rfl
  refine roV (As := [.int (xs (1 : Int32).toNatClampNeg), .int (xs (2 : Int32).toNatClampNeg), .int (xs (3 : Int32).toNatClampNeg)]) (rest := []) S (p_leave  ) (cwV 3 hts gL_law_X11_leave rfl rfl rfl (by decide +kernel) ⟨Nat.le_of_ble_eq_true rfl, Nat.le_of_ble_eq_true rfl⟩) hK hPc (va_recv hK.1 hPc (ci := 10) (q0 := 0) rfl rfl) rfl hl.1 rfl (Nat.le_of_ble_eq_true rfl) dL_law_643 ⟨Nat.le_of_ble_eq_true rfl, Nat.le_of_ble_eq_true rfl⟩ (fun r_a hw_a => ?_)
  have hw_a : r_a.toInt = -1 := hw_a
  refine lv_aload_n hx hb dL_law_646 rfl (lv_at hl 1 rfl) ?_
  refine lv_aload_n hx hb dL_law_647 rfl (lv_at hl 3 rfl) ?_
  refine lv_iload_n hx hb dL_law_648 rfl (lv_at hl 0 rfl) ?_
  refine lv_iconst (v := 1) hx hb dL_law_649 (by decide) ?_
  refine lv_iadd hx hb dL_law_650 ?_
  refine lv_topi (fun x_4 ex_4 => ?_)
  obtain rfl : x_4 = 1 := by rw [ex_4]; decide
  refine va_sld hx hb hX hbl hbA hS (t_in (by omega) (by omega)) dL_law_651 ?_
  refine lv_aload_n hx hb dL_law_652 rfl (lv_at hl 3 rfl) ?_
  refine lv_iload_n hx hb dL_law_653 rfl (lv_at hl 0 rfl) ?_
  refine lv_iconst (v := 2) hx hb dL_law_654 (by decide) ?_
  refine lv_iadd hx hb dL_law_655 ?_
  refine lv_topi (fun x_5 ex_5 => ?_)
  obtain rfl : x_5 = 2 := by rw [ex_5]; decide
  refine va_sld hx hb hX hbl hbA hS (t_in (by omega) (by omega)) dL_law_656 ?_
  refine lv_aload_n hx hb dL_law_657 rfl (lv_at hl 3 rfl) ?_
  refine lv_iload_n hx hb dL_law_658 rfl (lv_at hl 0 rfl) ?_
  refine lv_iconst (v := 3) hx hb dL_law_659 (by decide) ?_
  refine lv_iadd hx hb dL_law_660 ?_
  refine lv_topi (fun x_6 ex_6 => ?_)
  obtain rfl : x_6 = 3 := by rw [ex_6]; decide
  refine va_sld hx hb hX hbl hbA hS (t_in (by omega) (by omega)) dL_law_661 ?_
  have hPc := hP.sub (ws' := [(yh, .inr (11, [.int 0, .int 0, .int 0, .int 0, .int 0, .int 0, .int 0, .int 0, .int 0, .ref ya_isPriest, .ref ya_bars, .ref ya_joined, .ref ya_turns, .ref ya_awayMonk, .ref ya_awayFrom, .ref ya_awayTo, .ref ya_feastDay, .ref ya_rank, .ref ya_isWeekly, .ref ya_isDouble, .ref ya_giftDay, .ref ya_giftFrom, .ref ya_owed, .ref ya_said, .ref ya_spared, .ref ya_leaveGift, .ref ya_leaveFrom, .ref ya_leaveTo, .ref ya_lateDay, .ref ya_lateOffice, .ref ya_lateBy, .ref ya_guests, .ref ya_who, .ref ya_used, .ref ya_lacks, .ref ya_candles, .ref ya_masses, .ref ya_owing, .ref ya_heldOn, .ref ya_waits, .ref ya_tape, .ref ya_text, .int 0, .int 0, .int 0, .int (-1), .int 0, .ref ya_statements, .ref ya_taken, .ref ya_sort, .ref ya_first, .ref ya_second, .int 0, .int 0]))]) [2] rfl
  refine roV (As := [.int (xs (1 : Int32).toNatClampNeg), .int (xs (2 : Int32).toNatClampNeg), .int (xs (3 : Int32).toNatClampNeg)]) (rest := [.int r_a]) S (q_leave  ) (cwV 3 hts gL_law_X12_leave rfl rfl rfl (by decide +kernel) ⟨Nat.le_of_ble_eq_true rfl, Nat.le_of_ble_eq_true rfl⟩) hK hPc (va_recv hK.1 hPc (ci := 11) (q0 := 0) rfl rfl) rfl hl.1 rfl (Nat.le_of_ble_eq_true rfl) dL_law_662 ⟨Nat.le_of_ble_eq_true rfl, Nat.le_of_ble_eq_true rfl⟩ (fun r_b_ hw_b_ => ?_)
  have hw_b_ : r_b_.toInt = -1 := hw_b_
  refine lv_icmp_eq (tgt := 917) hx hb dL_law_665 (by decide) (fun cmp => ?_) (fun cmp => ?_)
  · have tcmp := t_eq cmp
    obtain ⟨x_8, ex_8⟩ : ∃ y : Int32, y = 0 + 6 := ⟨_, rfl⟩
    obtain rfl : x_8 = 6 := by rw [ex_8]; decide
    refine lv_iinc (v := 6) (lv' := [(3, .int 6), (2, .ref yh), (1, .ref xh), (0, .ref b)]) hx hb dL_law_917 hl (k := 0) rfl (by decide) (by decide) rfl (fun ls hl => ?_)
    refine lv_goto (tgt := 18) hx hb dL_law_920 (by decide) ?_
    refine lv_iload_n hx hb dL_law_18 rfl (lv_at hl 0 rfl) ?_
    refine lv_aload_n hx hb dL_law_19 rfl (lv_at hl 3 rfl) ?_
    refine va_slen hx hb hX hbl hbA hS dL_law_20 ?_
    refine lv_topi (fun x_9 ex_9 => ?_)
    have tx_9 : x_9.toInt = L := by rw [ex_9]; exact nI_toInt (by omega)
    refine lv_bipush (v := 6) hx hb dL_law_21 (by decide) ?_
    refine lv_isub hx hb dL_law_23 ?_
    refine lv_topi (fun x_10 ex_10 => ?_)
    first | have tx_10 := t_sub ex_10 (by omega) (by omega) | skip
    refine lv_icmp_gt (tgt := 923) hx hb dL_law_24 (by decide) (fun c_11 => ?_) (fun c_11 => ?_)
    · have tc_11 := t_lt c_11
      refine lv_iconst (v := 1) hx hb dL_law_923 (by decide) ?_
      refine va_forget (fun q hq => hAs _ (hS.2.2 q hq)) ?_
      refine W.widen (k := 600000) (n := 7302250) (Nat.le_of_ble_eq_true rfl) (Nat.le_of_ble_eq_true rfl) ?_
      exact lw_ret hx hb hr hlocks dL_law_924
    · have tc_11 := t_nlt c_11
      exfalso; omega
  · have tcmp := t_neq cmp
    exact absurd (Int32.toInt_inj.mp (by omega)) cmp

set_option maxHeartbeats 8000000 in
set_option maxRecDepth 100000 in
theorem law_case14 {p : Program} {e : Env} {s : State} {m : MethodId} {below : List Frame} {meth : Method} {c : Code} {l : Launch} {b L : Nat} {xs : Nat → Int32} {D : va_G} {cI cZ cB : ClassId} {A : Nat → Prop} {xh xa_bells xa_feasts xa_tape xa_reader xa_rules xa_monks xa_duties xa_gifts xa_figures xga_weekly xga_doubled xga_dueOn xga_owed xga_said xga_spared xga_leaveOf xga_leaveFrom xga_leaveTo yh ya_isPriest ya_bars ya_joined ya_turns ya_awayMonk ya_awayFrom ya_awayTo ya_feastDay ya_rank ya_isWeekly ya_isDouble ya_giftDay ya_giftFrom ya_owed ya_said ya_spared ya_leaveGift ya_leaveFrom ya_leaveTo ya_lateDay ya_lateOffice ya_lateBy ya_guests ya_who ya_used ya_lacks ya_candles ya_masses ya_owing ya_heldOn ya_waits ya_tape ya_text ya_statements ya_taken ya_sort ya_first ya_second : Nat} {xgf_owed xgf_said xgf_spared : Nat → Int32}  (hx : p.tables.exec = Jvm.exec) (hb : c.code = cL_law) (hr : meth.sig.returnType = ret) (hml : c.maxLocals = 4) (hown : s.vm.findClass RL = some m.cls) (hts0 : ∀ w ∈ lw_tbl, w.before #[Value.ref b] s = true) (hX : va_X b L xs s s.heap) (hbl : b < s.heap.size) (hlocks : meth.locks = false) (hK : KK D cI cZ cB s) (hA : ∀ q : Nat, s.heap.size ≤ q → A q) (hAs : ∀ q : Nat, A q → s.heap.size ≤ q) (hbA : ¬ A b) (hL : L ≤ 6) (h6 : 6 ≤ L) {H : Heap} {locs : List Loc} (hP : va_P D vwCl [(xh, .inr (10, [.ref xa_bells, .ref xa_feasts, .ref xa_tape, .ref xa_reader, .ref xa_rules, .ref xa_monks, .ref xa_duties, .ref xa_gifts, .ref xa_figures, .int 0, .int 0, .int 0, .int 0, .int (-1), .int 0])), (xa_gifts, .inr (4, [.ref xga_weekly, .ref xga_doubled, .ref xga_dueOn, .ref xga_owed, .ref xga_said, .ref xga_spared, .ref xga_leaveOf, .ref xga_leaveFrom, .ref xga_leaveTo, .int 0, .int 0])), (xga_owed, .inl (cI, 40, .inl xgf_owed)), (xga_said, .inl (cI, 40, .inl xgf_said)), (xga_spared, .inl (cI, 40, .inl xgf_spared)), (yh, .inr (11, [.int 0, .int 0, .int 0, .int 0, .int 0, .int 0, .int 0, .int 0, .int 0, .ref ya_isPriest, .ref ya_bars, .ref ya_joined, .ref ya_turns, .ref ya_awayMonk, .ref ya_awayFrom, .ref ya_awayTo, .ref ya_feastDay, .ref ya_rank, .ref ya_isWeekly, .ref ya_isDouble, .ref ya_giftDay, .ref ya_giftFrom, .ref ya_owed, .ref ya_said, .ref ya_spared, .ref ya_leaveGift, .ref ya_leaveFrom, .ref ya_leaveTo, .ref ya_lateDay, .ref ya_lateOffice, .ref ya_lateBy, .ref ya_guests, .ref ya_who, .ref ya_used, .ref ya_lacks, .ref ya_candles, .ref ya_masses, .ref ya_owing, .ref ya_heldOn, .ref ya_waits, .ref ya_tape, .ref ya_text, .int 0, .int 0, .int 0, .int (-1), .int 0, .ref ya_statements, .ref ya_taken, .ref ya_sort, .ref ya_first, .ref ya_second, .int 0, .int 0]))] H) (hD : va_D A [(xh, .inr (10, [.ref xa_bells, .ref xa_feasts, .ref xa_tape, .ref xa_reader, .ref xa_rules, .ref xa_monks, .ref xa_duties, .ref xa_gifts, .ref xa_figures, .int 0, .int 0, .int 0, .int 0, .int (-1), .int 0])), (xa_gifts, .inr (4, [.ref xga_weekly, .ref xga_doubled, .ref xga_dueOn, .ref xga_owed, .ref xga_said, .ref xga_spared, .ref xga_leaveOf, .ref xga_leaveFrom, .ref xga_leaveTo, .int 0, .int 0])), (xga_owed, .inl (cI, 40, .inl xgf_owed)), (xga_said, .inl (cI, 40, .inl xgf_said)), (xga_spared, .inl (cI, 40, .inl xgf_spared)), (yh, .inr (11, [.int 0, .int 0, .int 0, .int 0, .int 0, .int 0, .int 0, .int 0, .int 0, .ref ya_isPriest, .ref ya_bars, .ref ya_joined, .ref ya_turns, .ref ya_awayMonk, .ref ya_awayFrom, .ref ya_awayTo, .ref ya_feastDay, .ref ya_rank, .ref ya_isWeekly, .ref ya_isDouble, .ref ya_giftDay, .ref ya_giftFrom, .ref ya_owed, .ref ya_said, .ref ya_spared, .ref ya_leaveGift, .ref ya_leaveFrom, .ref ya_leaveTo, .ref ya_lateDay, .ref ya_lateOffice, .ref ya_lateBy, .ref ya_guests, .ref ya_who, .ref ya_used, .ref ya_lacks, .ref ya_candles, .ref ya_masses, .ref ya_owing, .ref ya_heldOn, .ref ya_waits, .ref ya_tape, .ref ya_text, .int 0, .int 0, .int 0, .int (-1), .int 0, .ref ya_statements, .ref ya_taken, .ref ya_sort, .ref ya_first, .ref ya_second, .int 0, .int 0]))]) (hS : va_S A s.heap H locs) (ls : Array Slot) (hl : lv_has ls 4 [(3, .int 0), (2, .ref yh), (1, .ref xh), (0, .ref b)]) : W p l e room_1 s m #[Value.ref b] below meth c H locs 90 16895 (lw_Z below #[Value.ref b] s) (F0 m 670 ls []) := by
  have hts : ∀ w ∈ wsL_law, w.before #[Value.ref b] s = true := fun w h => hts0 w (wsL_law_in w h)
  have S : CallFix p m c cL_law 4 s #[Value.ref b] wsL_law RL := ⟨hx, hb, hml, hown, hts⟩
  have kk0 : (0 : Int32).toInt = 0 := by decide
  have kk1 : (1 : Int32).toInt = 1 := by decide
  have kk2 : (2 : Int32).toInt = 2 := by decide
  have kk3 : (3 : Int32).toInt = 3 := by decide
  have kk4 : (4 : Int32).toInt = 4 := by decide
  have kk5 : (5 : Int32).toInt = 5 := by decide
  have kk6 : (6 : Int32).toInt = 6 := by decide
  have kk31 : (31 : Int32).toInt = 31 := by decide
  have kkm1 : (-1 : Int32).toInt = -1 := by decide
  refine lv_aload_n hx hb dL_law_670 rfl (lv_at hl 2 rfl) ?_
  refine lv_aload_n hx hb dL_law_671 rfl (lv_at hl 3 rfl) ?_
  refine lv_iload_n hx hb dL_law_672 rfl (lv_at hl 0 rfl) ?_
  refine lv_iconst (v := 1) hx hb dL_law_673 (by decide) ?_
  refine lv_iadd hx hb dL_law_674 ?_
  refine lv_topi (fun x_1 ex_1 => ?_)
  obtain rfl : x_1 = 1 := by rw [ex_1]; decide
  refine va_sld hx hb hX hbl hbA hS (t_in (by omega) (by omega)) dL_law_675 ?_
  refine lv_aload_n hx hb dL_law_676 rfl (lv_at hl 3 rfl) ?_
  refine lv_iload_n hx hb dL_law_677 rfl (lv_at hl 0 rfl) ?_
  refine lv_iconst (v := 2) hx hb dL_law_678 (by decide) ?_
  refine lv_iadd hx hb dL_law_679 ?_
  refine lv_topi (fun x_2 ex_2 => ?_)
  obtain rfl : x_2 = 2 := by rw [ex_2]; decide
  refine va_sld hx hb hX hbl hbA hS (t_in (by omega) (by omega)) dL_law_680 ?_
  have hPc := hP.sub (ws' := [(xh, .inr (10, [.ref xa_bells, .ref xa_feasts, .ref xa_tape, .ref xa_reader, .ref xa_rules, .ref xa_monks, .ref xa_duties, .ref xa_gifts, .ref xa_figures, .int 0, .int 0, .int 0, .int 0, .int (-1), .int 0])), (xa_gifts, .inr (4, [.ref xga_weekly, .ref xga_doubled, .ref xga_dueOn, .ref xga_owed, .ref xga_said, .ref xga_spared, .ref xga_leaveOf, .ref xga_leaveFrom, .ref xga_leaveTo, .int 0, .int 0])), (xga_owed, .inl (cI, 40, .inl xgf_owed)), (xga_said, .inl (cI, 40, .inl xgf_said)), (xga_spared, .inl (cI, 40, .inl xgf_spared))]) [0, 1, 2, 3, 4] rfl
  refine roV (As := [.int (xs (1 : Int32).toNatClampNeg), .int (xs (2 : Int32).toNatClampNeg)]) (rest := []) S (p_giftOf  ) (cwV 2 hts gL_law_X11_giftOf rfl rfl rfl (by decide +kernel) ⟨Nat.le_of_ble_eq_true rfl, Nat.le_of_ble_eq_true rfl⟩) hK hPc (va_recv hK.1 hPc (ci := 10) (q0 := 0) rfl rfl) rfl hl.1 rfl (Nat.le_of_ble_eq_true rfl) dL_law_681 ⟨Nat.le_of_ble_eq_true rfl, Nat.le_of_ble_eq_true rfl⟩ (fun r_a hw_a => ?_)
  have hw_a : r_a.toInt = -1 := hw_a
  refine lv_aload_n hx hb dL_law_684 rfl (lv_at hl 1 rfl) ?_
  refine lv_aload_n hx hb dL_law_685 rfl (lv_at hl 3 rfl) ?_
  refine lv_iload_n hx hb dL_law_686 rfl (lv_at hl 0 rfl) ?_
  refine lv_iconst (v := 1) hx hb dL_law_687 (by decide) ?_
  refine lv_iadd hx hb dL_law_688 ?_
  refine lv_topi (fun x_3 ex_3 => ?_)
  obtain rfl : x_3 = 1 := by rw [ex_3]; decide
  refine va_sld hx hb hX hbl hbA hS (t_in (by omega) (by omega)) dL_law_689 ?_
  refine lv_aload_n hx hb dL_law_690 rfl (lv_at hl 3 rfl) ?_
  refine lv_iload_n hx hb dL_law_691 rfl (lv_at hl 0 rfl) ?_
  refine lv_iconst (v := 2) hx hb dL_law_692 (by decide) ?_
  refine lv_iadd hx hb dL_law_693 ?_
  refine lv_topi (fun x_4 ex_4 => ?_)
  obtain rfl : x_4 = 2 := by rw [ex_4]; decide
  refine va_sld hx hb hX hbl hbA hS (t_in (by omega) (by omega)) dL_law_694 ?_
  have hPc := hP.sub (ws' := [(yh, .inr (11, [.int 0, .int 0, .int 0, .int 0, .int 0, .int 0, .int 0, .int 0, .int 0, .ref ya_isPriest, .ref ya_bars, .ref ya_joined, .ref ya_turns, .ref ya_awayMonk, .ref ya_awayFrom, .ref ya_awayTo, .ref ya_feastDay, .ref ya_rank, .ref ya_isWeekly, .ref ya_isDouble, .ref ya_giftDay, .ref ya_giftFrom, .ref ya_owed, .ref ya_said, .ref ya_spared, .ref ya_leaveGift, .ref ya_leaveFrom, .ref ya_leaveTo, .ref ya_lateDay, .ref ya_lateOffice, .ref ya_lateBy, .ref ya_guests, .ref ya_who, .ref ya_used, .ref ya_lacks, .ref ya_candles, .ref ya_masses, .ref ya_owing, .ref ya_heldOn, .ref ya_waits, .ref ya_tape, .ref ya_text, .int 0, .int 0, .int 0, .int (-1), .int 0, .ref ya_statements, .ref ya_taken, .ref ya_sort, .ref ya_first, .ref ya_second, .int 0, .int 0]))]) [5] rfl
  refine roV (As := [.int (xs (1 : Int32).toNatClampNeg), .int (xs (2 : Int32).toNatClampNeg)]) (rest := [.int r_a]) S (q_giftOf  ) (cwV 2 hts gL_law_X12_giftOf rfl rfl rfl (by decide +kernel) ⟨Nat.le_of_ble_eq_true rfl, Nat.le_of_ble_eq_true rfl⟩) hK hPc (va_recv hK.1 hPc (ci := 11) (q0 := 0) rfl rfl) rfl hl.1 rfl (Nat.le_of_ble_eq_true rfl) dL_law_695 ⟨Nat.le_of_ble_eq_true rfl, Nat.le_of_ble_eq_true rfl⟩ (fun r_b_ hw_b_ => ?_)
  have hw_b_ : r_b_.toInt = -1 := hw_b_
  refine lv_icmp_eq (tgt := 917) hx hb dL_law_698 (by decide) (fun cmp => ?_) (fun cmp => ?_)
  · have tcmp := t_eq cmp
    obtain ⟨x_6, ex_6⟩ : ∃ y : Int32, y = 0 + 6 := ⟨_, rfl⟩
    obtain rfl : x_6 = 6 := by rw [ex_6]; decide
    refine lv_iinc (v := 6) (lv' := [(3, .int 6), (2, .ref yh), (1, .ref xh), (0, .ref b)]) hx hb dL_law_917 hl (k := 0) rfl (by decide) (by decide) rfl (fun ls hl => ?_)
    refine lv_goto (tgt := 18) hx hb dL_law_920 (by decide) ?_
    refine lv_iload_n hx hb dL_law_18 rfl (lv_at hl 0 rfl) ?_
    refine lv_aload_n hx hb dL_law_19 rfl (lv_at hl 3 rfl) ?_
    refine va_slen hx hb hX hbl hbA hS dL_law_20 ?_
    refine lv_topi (fun x_7 ex_7 => ?_)
    have tx_7 : x_7.toInt = L := by rw [ex_7]; exact nI_toInt (by omega)
    refine lv_bipush (v := 6) hx hb dL_law_21 (by decide) ?_
    refine lv_isub hx hb dL_law_23 ?_
    refine lv_topi (fun x_8 ex_8 => ?_)
    first | have tx_8 := t_sub ex_8 (by omega) (by omega) | skip
    refine lv_icmp_gt (tgt := 923) hx hb dL_law_24 (by decide) (fun c_9 => ?_) (fun c_9 => ?_)
    · have tc_9 := t_lt c_9
      refine lv_iconst (v := 1) hx hb dL_law_923 (by decide) ?_
      refine va_forget (fun q hq => hAs _ (hS.2.2 q hq)) ?_
      refine W.widen (k := 600000) (n := 7302250) (Nat.le_of_ble_eq_true rfl) (Nat.le_of_ble_eq_true rfl) ?_
      exact lw_ret hx hb hr hlocks dL_law_924
    · have tc_9 := t_nlt c_9
      exfalso; omega
  · have tcmp := t_neq cmp
    exact absurd (Int32.toInt_inj.mp (by omega)) cmp

set_option maxHeartbeats 8000000 in
set_option maxRecDepth 100000 in
theorem law_case15 {p : Program} {e : Env} {s : State} {m : MethodId} {below : List Frame} {meth : Method} {c : Code} {l : Launch} {b L : Nat} {xs : Nat → Int32} {D : va_G} {cI cZ cB : ClassId} {A : Nat → Prop} {xh xa_bells xa_feasts xa_tape xa_reader xa_rules xa_monks xa_duties xa_gifts xa_figures yh ya_isPriest ya_bars ya_joined ya_turns ya_awayMonk ya_awayFrom ya_awayTo ya_feastDay ya_rank ya_isWeekly ya_isDouble ya_giftDay ya_giftFrom ya_owed ya_said ya_spared ya_leaveGift ya_leaveFrom ya_leaveTo ya_lateDay ya_lateOffice ya_lateBy ya_guests ya_who ya_used ya_lacks ya_candles ya_masses ya_owing ya_heldOn ya_waits ya_tape ya_text ya_statements ya_taken ya_sort ya_first ya_second : Nat}  (hx : p.tables.exec = Jvm.exec) (hb : c.code = cL_law) (hr : meth.sig.returnType = ret) (hml : c.maxLocals = 4) (hown : s.vm.findClass RL = some m.cls) (hts0 : ∀ w ∈ lw_tbl, w.before #[Value.ref b] s = true) (hX : va_X b L xs s s.heap) (hbl : b < s.heap.size) (hlocks : meth.locks = false) (hK : KK D cI cZ cB s) (hA : ∀ q : Nat, s.heap.size ≤ q → A q) (hAs : ∀ q : Nat, A q → s.heap.size ≤ q) (hbA : ¬ A b) (hL : L ≤ 6) (h6 : 6 ≤ L) {H : Heap} {locs : List Loc} (hP : va_P D vwCl [(xh, .inr (10, [.ref xa_bells, .ref xa_feasts, .ref xa_tape, .ref xa_reader, .ref xa_rules, .ref xa_monks, .ref xa_duties, .ref xa_gifts, .ref xa_figures, .int 0, .int 0, .int 0, .int 0, .int (-1), .int 0])), (yh, .inr (11, [.int 0, .int 0, .int 0, .int 0, .int 0, .int 0, .int 0, .int 0, .int 0, .ref ya_isPriest, .ref ya_bars, .ref ya_joined, .ref ya_turns, .ref ya_awayMonk, .ref ya_awayFrom, .ref ya_awayTo, .ref ya_feastDay, .ref ya_rank, .ref ya_isWeekly, .ref ya_isDouble, .ref ya_giftDay, .ref ya_giftFrom, .ref ya_owed, .ref ya_said, .ref ya_spared, .ref ya_leaveGift, .ref ya_leaveFrom, .ref ya_leaveTo, .ref ya_lateDay, .ref ya_lateOffice, .ref ya_lateBy, .ref ya_guests, .ref ya_who, .ref ya_used, .ref ya_lacks, .ref ya_candles, .ref ya_masses, .ref ya_owing, .ref ya_heldOn, .ref ya_waits, .ref ya_tape, .ref ya_text, .int 0, .int 0, .int 0, .int (-1), .int 0, .ref ya_statements, .ref ya_taken, .ref ya_sort, .ref ya_first, .ref ya_second, .int 0, .int 0]))] H) (hD : va_D A [(xh, .inr (10, [.ref xa_bells, .ref xa_feasts, .ref xa_tape, .ref xa_reader, .ref xa_rules, .ref xa_monks, .ref xa_duties, .ref xa_gifts, .ref xa_figures, .int 0, .int 0, .int 0, .int 0, .int (-1), .int 0])), (yh, .inr (11, [.int 0, .int 0, .int 0, .int 0, .int 0, .int 0, .int 0, .int 0, .int 0, .ref ya_isPriest, .ref ya_bars, .ref ya_joined, .ref ya_turns, .ref ya_awayMonk, .ref ya_awayFrom, .ref ya_awayTo, .ref ya_feastDay, .ref ya_rank, .ref ya_isWeekly, .ref ya_isDouble, .ref ya_giftDay, .ref ya_giftFrom, .ref ya_owed, .ref ya_said, .ref ya_spared, .ref ya_leaveGift, .ref ya_leaveFrom, .ref ya_leaveTo, .ref ya_lateDay, .ref ya_lateOffice, .ref ya_lateBy, .ref ya_guests, .ref ya_who, .ref ya_used, .ref ya_lacks, .ref ya_candles, .ref ya_masses, .ref ya_owing, .ref ya_heldOn, .ref ya_waits, .ref ya_tape, .ref ya_text, .int 0, .int 0, .int 0, .int (-1), .int 0, .ref ya_statements, .ref ya_taken, .ref ya_sort, .ref ya_first, .ref ya_second, .int 0, .int 0]))]) (hS : va_S A s.heap H locs) (ls : Array Slot) (hl : lv_has ls 4 [(3, .int 0), (2, .ref yh), (1, .ref xh), (0, .ref b)]) : W p l e room_1 s m #[Value.ref b] below meth c H locs 90 16895 (lw_Z below #[Value.ref b] s) (F0 m 703 ls []) := by
  have hts : ∀ w ∈ wsL_law, w.before #[Value.ref b] s = true := fun w h => hts0 w (wsL_law_in w h)
  have S : CallFix p m c cL_law 4 s #[Value.ref b] wsL_law RL := ⟨hx, hb, hml, hown, hts⟩
  have kk0 : (0 : Int32).toInt = 0 := by decide
  have kk1 : (1 : Int32).toInt = 1 := by decide
  have kk2 : (2 : Int32).toInt = 2 := by decide
  have kk3 : (3 : Int32).toInt = 3 := by decide
  have kk4 : (4 : Int32).toInt = 4 := by decide
  have kk5 : (5 : Int32).toInt = 5 := by decide
  have kk6 : (6 : Int32).toInt = 6 := by decide
  have kk31 : (31 : Int32).toInt = 31 := by decide
  have kkm1 : (-1 : Int32).toInt = -1 := by decide
  refine lv_aload_n hx hb dL_law_703 rfl (lv_at hl 2 rfl) ?_
  refine lv_aload_n hx hb dL_law_704 rfl (lv_at hl 3 rfl) ?_
  refine lv_iload_n hx hb dL_law_705 rfl (lv_at hl 0 rfl) ?_
  refine lv_iconst (v := 1) hx hb dL_law_706 (by decide) ?_
  refine lv_iadd hx hb dL_law_707 ?_
  refine lv_topi (fun x_1 ex_1 => ?_)
  obtain rfl : x_1 = 1 := by rw [ex_1]; decide
  refine va_sld hx hb hX hbl hbA hS (t_in (by omega) (by omega)) dL_law_708 ?_
  have hPc := hP.sub (ws' := [(xh, .inr (10, [.ref xa_bells, .ref xa_feasts, .ref xa_tape, .ref xa_reader, .ref xa_rules, .ref xa_monks, .ref xa_duties, .ref xa_gifts, .ref xa_figures, .int 0, .int 0, .int 0, .int 0, .int (-1), .int 0]))]) [0] rfl
  refine rwV (As := [.int (xs (1 : Int32).toNatClampNeg)]) (rest := []) (wc := [(xh, .inr (10, [.ref xa_bells, .ref xa_feasts, .ref xa_tape, .ref xa_reader, .ref xa_rules, .ref xa_monks, .ref xa_duties, .ref xa_gifts, .ref xa_figures, .int 0, .int 0, .int 0, .int 0, .int (-1), .int 0]))]) (wr := [(yh, .inr (11, [.int 0, .int 0, .int 0, .int 0, .int 0, .int 0, .int 0, .int 0, .int 0, .ref ya_isPriest, .ref ya_bars, .ref ya_joined, .ref ya_turns, .ref ya_awayMonk, .ref ya_awayFrom, .ref ya_awayTo, .ref ya_feastDay, .ref ya_rank, .ref ya_isWeekly, .ref ya_isDouble, .ref ya_giftDay, .ref ya_giftFrom, .ref ya_owed, .ref ya_said, .ref ya_spared, .ref ya_leaveGift, .ref ya_leaveFrom, .ref ya_leaveTo, .ref ya_lateDay, .ref ya_lateOffice, .ref ya_lateBy, .ref ya_guests, .ref ya_who, .ref ya_used, .ref ya_lacks, .ref ya_candles, .ref ya_masses, .ref ya_owing, .ref ya_heldOn, .ref ya_waits, .ref ya_tape, .ref ya_text, .int 0, .int 0, .int 0, .int (-1), .int 0, .ref ya_statements, .ref ya_taken, .ref ya_sort, .ref ya_first, .ref ya_second, .int 0, .int 0]))]) S (p_store  ) (cwV 1 hts gL_law_X11_store rfl rfl rfl (by decide +kernel) ⟨Nat.le_of_ble_eq_true rfl, Nat.le_of_ble_eq_true rfl⟩) hK hP hD hS hA [0] [1] rfl rfl (by decide) (by decide) (by decide) (va_recv hK.1 hPc (ci := 10) (q0 := 0) rfl rfl) rfl hl.1 rfl (Nat.le_of_ble_eq_true rfl) dL_law_709 ⟨Nat.le_of_ble_eq_true rfl, Nat.le_of_ble_eq_true rfl⟩ (fun r_a u_a H locs hw_a hP hD hS => ?_)
  obtain ⟨n1_a, rfl⟩ : ∃ z, z = u_a := ⟨_, rfl⟩
  have hw_a : (0 ≤ (xs (1 : Int32).toNatClampNeg).toInt ∧ (xs (1 : Int32).toNatClampNeg).toInt ≤ 10000 → r_a.toInt = (xs (1 : Int32).toNatClampNeg).toInt) ∧ (¬ (0 ≤ (xs (1 : Int32).toNatClampNeg).toInt ∧ (xs (1 : Int32).toNatClampNeg).toInt ≤ 10000) → r_a.toInt = -1) := hw_a
  have hP : va_P D vwCl [(yh, .inr (11, [.int 0, .int 0, .int 0, .int 0, .int 0, .int 0, .int 0, .int 0, .int 0, .ref ya_isPriest, .ref ya_bars, .ref ya_joined, .ref ya_turns, .ref ya_awayMonk, .ref ya_awayFrom, .ref ya_awayTo, .ref ya_feastDay, .ref ya_rank, .ref ya_isWeekly, .ref ya_isDouble, .ref ya_giftDay, .ref ya_giftFrom, .ref ya_owed, .ref ya_said, .ref ya_spared, .ref ya_leaveGift, .ref ya_leaveFrom, .ref ya_leaveTo, .ref ya_lateDay, .ref ya_lateOffice, .ref ya_lateBy, .ref ya_guests, .ref ya_who, .ref ya_used, .ref ya_lacks, .ref ya_candles, .ref ya_masses, .ref ya_owing, .ref ya_heldOn, .ref ya_waits, .ref ya_tape, .ref ya_text, .int 0, .int 0, .int 0, .int (-1), .int 0, .ref ya_statements, .ref ya_taken, .ref ya_sort, .ref ya_first, .ref ya_second, .int 0, .int 0])), (xh, .inr (10, [.ref xa_bells, .ref xa_feasts, .ref xa_tape, .ref xa_reader, .ref xa_rules, .ref xa_monks, .ref xa_duties, .ref xa_gifts, .ref xa_figures, .int 0, .int n1_a, .int 0, .int 0, .int (-1), .int 0]))] H := hP
  have hD : va_D A [(yh, .inr (11, [.int 0, .int 0, .int 0, .int 0, .int 0, .int 0, .int 0, .int 0, .int 0, .ref ya_isPriest, .ref ya_bars, .ref ya_joined, .ref ya_turns, .ref ya_awayMonk, .ref ya_awayFrom, .ref ya_awayTo, .ref ya_feastDay, .ref ya_rank, .ref ya_isWeekly, .ref ya_isDouble, .ref ya_giftDay, .ref ya_giftFrom, .ref ya_owed, .ref ya_said, .ref ya_spared, .ref ya_leaveGift, .ref ya_leaveFrom, .ref ya_leaveTo, .ref ya_lateDay, .ref ya_lateOffice, .ref ya_lateBy, .ref ya_guests, .ref ya_who, .ref ya_used, .ref ya_lacks, .ref ya_candles, .ref ya_masses, .ref ya_owing, .ref ya_heldOn, .ref ya_waits, .ref ya_tape, .ref ya_text, .int 0, .int 0, .int 0, .int (-1), .int 0, .ref ya_statements, .ref ya_taken, .ref ya_sort, .ref ya_first, .ref ya_second, .int 0, .int 0])), (xh, .inr (10, [.ref xa_bells, .ref xa_feasts, .ref xa_tape, .ref xa_reader, .ref xa_rules, .ref xa_monks, .ref xa_duties, .ref xa_gifts, .ref xa_figures, .int 0, .int n1_a, .int 0, .int 0, .int (-1), .int 0]))] := hD
  refine lv_aload_n hx hb dL_law_712 rfl (lv_at hl 1 rfl) ?_
  refine lv_aload_n hx hb dL_law_713 rfl (lv_at hl 3 rfl) ?_
  refine lv_iload_n hx hb dL_law_714 rfl (lv_at hl 0 rfl) ?_
  refine lv_iconst (v := 1) hx hb dL_law_715 (by decide) ?_
  refine lv_iadd hx hb dL_law_716 ?_
  refine lv_topi (fun x_2 ex_2 => ?_)
  obtain rfl : x_2 = 1 := by rw [ex_2]; decide
  refine va_sld hx hb hX hbl hbA hS (t_in (by omega) (by omega)) dL_law_717 ?_
  have hPc := hP.sub (ws' := [(yh, .inr (11, [.int 0, .int 0, .int 0, .int 0, .int 0, .int 0, .int 0, .int 0, .int 0, .ref ya_isPriest, .ref ya_bars, .ref ya_joined, .ref ya_turns, .ref ya_awayMonk, .ref ya_awayFrom, .ref ya_awayTo, .ref ya_feastDay, .ref ya_rank, .ref ya_isWeekly, .ref ya_isDouble, .ref ya_giftDay, .ref ya_giftFrom, .ref ya_owed, .ref ya_said, .ref ya_spared, .ref ya_leaveGift, .ref ya_leaveFrom, .ref ya_leaveTo, .ref ya_lateDay, .ref ya_lateOffice, .ref ya_lateBy, .ref ya_guests, .ref ya_who, .ref ya_used, .ref ya_lacks, .ref ya_candles, .ref ya_masses, .ref ya_owing, .ref ya_heldOn, .ref ya_waits, .ref ya_tape, .ref ya_text, .int 0, .int 0, .int 0, .int (-1), .int 0, .ref ya_statements, .ref ya_taken, .ref ya_sort, .ref ya_first, .ref ya_second, .int 0, .int 0]))]) [0] rfl
  refine rwV (As := [.int (xs (1 : Int32).toNatClampNeg)]) (rest := [.int r_a]) (wc := [(yh, .inr (11, [.int 0, .int 0, .int 0, .int 0, .int 0, .int 0, .int 0, .int 0, .int 0, .ref ya_isPriest, .ref ya_bars, .ref ya_joined, .ref ya_turns, .ref ya_awayMonk, .ref ya_awayFrom, .ref ya_awayTo, .ref ya_feastDay, .ref ya_rank, .ref ya_isWeekly, .ref ya_isDouble, .ref ya_giftDay, .ref ya_giftFrom, .ref ya_owed, .ref ya_said, .ref ya_spared, .ref ya_leaveGift, .ref ya_leaveFrom, .ref ya_leaveTo, .ref ya_lateDay, .ref ya_lateOffice, .ref ya_lateBy, .ref ya_guests, .ref ya_who, .ref ya_used, .ref ya_lacks, .ref ya_candles, .ref ya_masses, .ref ya_owing, .ref ya_heldOn, .ref ya_waits, .ref ya_tape, .ref ya_text, .int 0, .int 0, .int 0, .int (-1), .int 0, .ref ya_statements, .ref ya_taken, .ref ya_sort, .ref ya_first, .ref ya_second, .int 0, .int 0]))]) (wr := [(xh, .inr (10, [.ref xa_bells, .ref xa_feasts, .ref xa_tape, .ref xa_reader, .ref xa_rules, .ref xa_monks, .ref xa_duties, .ref xa_gifts, .ref xa_figures, .int 0, .int n1_a, .int 0, .int 0, .int (-1), .int 0]))]) S (q_store  ) (cwV 1 hts gL_law_X12_store rfl rfl rfl (by decide +kernel) ⟨Nat.le_of_ble_eq_true rfl, Nat.le_of_ble_eq_true rfl⟩) hK hP hD hS hA [0] [1] rfl rfl (by decide) (by decide) (by decide) (va_recv hK.1 hPc (ci := 11) (q0 := 0) rfl rfl) rfl hl.1 rfl (Nat.le_of_ble_eq_true rfl) dL_law_718 ⟨Nat.le_of_ble_eq_true rfl, Nat.le_of_ble_eq_true rfl⟩ (fun r_b_ u_b_ H locs hw_b_ hP hD hS => ?_)
  obtain ⟨n1_b_, rfl⟩ : ∃ z, z = u_b_ := ⟨_, rfl⟩
  have hw_b_ : (0 ≤ (xs (1 : Int32).toNatClampNeg).toInt ∧ (xs (1 : Int32).toNatClampNeg).toInt ≤ 10000 → r_b_.toInt = (xs (1 : Int32).toNatClampNeg).toInt) ∧ (¬ (0 ≤ (xs (1 : Int32).toNatClampNeg).toInt ∧ (xs (1 : Int32).toNatClampNeg).toInt ≤ 10000) → r_b_.toInt = -1) := hw_b_
  have hP : va_P D vwCl [(xh, .inr (10, [.ref xa_bells, .ref xa_feasts, .ref xa_tape, .ref xa_reader, .ref xa_rules, .ref xa_monks, .ref xa_duties, .ref xa_gifts, .ref xa_figures, .int 0, .int n1_a, .int 0, .int 0, .int (-1), .int 0])), (yh, .inr (11, [.int 0, .int 0, .int 0, .int 0, .int 0, .int 0, .int 0, .int n1_b_, .int 0, .ref ya_isPriest, .ref ya_bars, .ref ya_joined, .ref ya_turns, .ref ya_awayMonk, .ref ya_awayFrom, .ref ya_awayTo, .ref ya_feastDay, .ref ya_rank, .ref ya_isWeekly, .ref ya_isDouble, .ref ya_giftDay, .ref ya_giftFrom, .ref ya_owed, .ref ya_said, .ref ya_spared, .ref ya_leaveGift, .ref ya_leaveFrom, .ref ya_leaveTo, .ref ya_lateDay, .ref ya_lateOffice, .ref ya_lateBy, .ref ya_guests, .ref ya_who, .ref ya_used, .ref ya_lacks, .ref ya_candles, .ref ya_masses, .ref ya_owing, .ref ya_heldOn, .ref ya_waits, .ref ya_tape, .ref ya_text, .int 0, .int 0, .int 0, .int (-1), .int 0, .ref ya_statements, .ref ya_taken, .ref ya_sort, .ref ya_first, .ref ya_second, .int 0, .int 0]))] H := hP
  have hD : va_D A [(xh, .inr (10, [.ref xa_bells, .ref xa_feasts, .ref xa_tape, .ref xa_reader, .ref xa_rules, .ref xa_monks, .ref xa_duties, .ref xa_gifts, .ref xa_figures, .int 0, .int n1_a, .int 0, .int 0, .int (-1), .int 0])), (yh, .inr (11, [.int 0, .int 0, .int 0, .int 0, .int 0, .int 0, .int 0, .int n1_b_, .int 0, .ref ya_isPriest, .ref ya_bars, .ref ya_joined, .ref ya_turns, .ref ya_awayMonk, .ref ya_awayFrom, .ref ya_awayTo, .ref ya_feastDay, .ref ya_rank, .ref ya_isWeekly, .ref ya_isDouble, .ref ya_giftDay, .ref ya_giftFrom, .ref ya_owed, .ref ya_said, .ref ya_spared, .ref ya_leaveGift, .ref ya_leaveFrom, .ref ya_leaveTo, .ref ya_lateDay, .ref ya_lateOffice, .ref ya_lateBy, .ref ya_guests, .ref ya_who, .ref ya_used, .ref ya_lacks, .ref ya_candles, .ref ya_masses, .ref ya_owing, .ref ya_heldOn, .ref ya_waits, .ref ya_tape, .ref ya_text, .int 0, .int 0, .int 0, .int (-1), .int 0, .ref ya_statements, .ref ya_taken, .ref ya_sort, .ref ya_first, .ref ya_second, .int 0, .int 0]))] := hD
  refine lv_icmp_eq (tgt := 917) hx hb dL_law_721 (by decide) (fun cmp => ?_) (fun cmp => ?_)
  · have tcmp := t_eq cmp
    obtain ⟨x_4, ex_4⟩ : ∃ y : Int32, y = 0 + 6 := ⟨_, rfl⟩
    obtain rfl : x_4 = 6 := by rw [ex_4]; decide
    refine lv_iinc (v := 6) (lv' := [(3, .int 6), (2, .ref yh), (1, .ref xh), (0, .ref b)]) hx hb dL_law_917 hl (k := 0) rfl (by decide) (by decide) rfl (fun ls hl => ?_)
    refine lv_goto (tgt := 18) hx hb dL_law_920 (by decide) ?_
    refine lv_iload_n hx hb dL_law_18 rfl (lv_at hl 0 rfl) ?_
    refine lv_aload_n hx hb dL_law_19 rfl (lv_at hl 3 rfl) ?_
    refine va_slen hx hb hX hbl hbA hS dL_law_20 ?_
    refine lv_topi (fun x_5 ex_5 => ?_)
    have tx_5 : x_5.toInt = L := by rw [ex_5]; exact nI_toInt (by omega)
    refine lv_bipush (v := 6) hx hb dL_law_21 (by decide) ?_
    refine lv_isub hx hb dL_law_23 ?_
    refine lv_topi (fun x_6 ex_6 => ?_)
    first | have tx_6 := t_sub ex_6 (by omega) (by omega) | skip
    refine lv_icmp_gt (tgt := 923) hx hb dL_law_24 (by decide) (fun c_7 => ?_) (fun c_7 => ?_)
    · have tc_7 := t_lt c_7
      refine lv_iconst (v := 1) hx hb dL_law_923 (by decide) ?_
      refine va_forget (fun q hq => hAs _ (hS.2.2 q hq)) ?_
      refine W.widen (k := 600000) (n := 7302250) (Nat.le_of_ble_eq_true rfl) (Nat.le_of_ble_eq_true rfl) ?_
      exact lw_ret hx hb hr hlocks dL_law_924
    · have tc_7 := t_nlt c_7
      exfalso; omega
  · have tcmp := t_neq cmp
    exact absurd (Int32.toInt_inj.mp (by omega)) cmp
