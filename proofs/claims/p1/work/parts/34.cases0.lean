set_option maxHeartbeats 8000000 in
set_option maxRecDepth 100000 in
theorem law_case0 {p : Program} {e : Env} {s : State} {m : MethodId} {below : List Frame} {meth : Method} {c : Code} {l : Launch} {b L : Nat} {xs : Nat → Int32} {D : va_G} {cI cZ cB : ClassId} {A : Nat → Prop} {xh xa_bells xa_feasts xa_tape xa_reader xa_rules xa_monks xa_duties xa_gifts xa_figures xma_priests xma_barred xma_cameOn xma_absent xma_absentFrom xma_absentTo yh ya_isPriest ya_bars ya_joined ya_turns ya_awayMonk ya_awayFrom ya_awayTo ya_feastDay ya_rank ya_isWeekly ya_isDouble ya_giftDay ya_giftFrom ya_owed ya_said ya_spared ya_leaveGift ya_leaveFrom ya_leaveTo ya_lateDay ya_lateOffice ya_lateBy ya_guests ya_who ya_used ya_lacks ya_candles ya_masses ya_owing ya_heldOn ya_waits ya_tape ya_text ya_statements ya_taken ya_sort ya_first ya_second : Nat} {xmf_priests xmf_barred xmf_cameOn yf_isPriest yf_bars yf_joined : Nat → Int32}  (hx : p.tables.exec = Jvm.exec) (hb : c.code = cL_law) (hr : meth.sig.returnType = ret) (hml : c.maxLocals = 4) (hown : s.vm.findClass RL = some m.cls) (hts0 : ∀ w ∈ lw_tbl, w.before #[Value.ref b] s = true) (hX : va_X b L xs s s.heap) (hbl : b < s.heap.size) (hlocks : meth.locks = false) (hK : KK D cI cZ cB s) (hA : ∀ q : Nat, s.heap.size ≤ q → A q) (hAs : ∀ q : Nat, A q → s.heap.size ≤ q) (hbA : ¬ A b) (hL : L ≤ 6) (h6 : 6 ≤ L) {H : Heap} {locs : List Loc} (hP : va_P D vwCl [(xh, .inr (10, [.ref xa_bells, .ref xa_feasts, .ref xa_tape, .ref xa_reader, .ref xa_rules, .ref xa_monks, .ref xa_duties, .ref xa_gifts, .ref xa_figures, .int 0, .int 0, .int 0, .int 0, .int (-1), .int 0])), (xa_monks, .inr (5, [.ref xma_priests, .ref xma_barred, .ref xma_cameOn, .ref xma_absent, .ref xma_absentFrom, .ref xma_absentTo, .int 0, .int 0])), (xma_priests, .inl (cZ, 24, .inl xmf_priests)), (xma_barred, .inl (cI, 24, .inl xmf_barred)), (xma_cameOn, .inl (cI, 24, .inl xmf_cameOn)), (yh, .inr (11, [.int 0, .int 0, .int 0, .int 0, .int 0, .int 0, .int 0, .int 0, .int 0, .ref ya_isPriest, .ref ya_bars, .ref ya_joined, .ref ya_turns, .ref ya_awayMonk, .ref ya_awayFrom, .ref ya_awayTo, .ref ya_feastDay, .ref ya_rank, .ref ya_isWeekly, .ref ya_isDouble, .ref ya_giftDay, .ref ya_giftFrom, .ref ya_owed, .ref ya_said, .ref ya_spared, .ref ya_leaveGift, .ref ya_leaveFrom, .ref ya_leaveTo, .ref ya_lateDay, .ref ya_lateOffice, .ref ya_lateBy, .ref ya_guests, .ref ya_who, .ref ya_used, .ref ya_lacks, .ref ya_candles, .ref ya_masses, .ref ya_owing, .ref ya_heldOn, .ref ya_waits, .ref ya_tape, .ref ya_text, .int 0, .int 0, .int 0, .int (-1), .int 0, .ref ya_statements, .ref ya_taken, .ref ya_sort, .ref ya_first, .ref ya_second, .int 0, .int 0])), (ya_isPriest, .inl (cZ, 24, .inl yf_isPriest)), (ya_bars, .inl (cI, 24, .inl yf_bars)), (ya_joined, .inl (cI, 24, .inl yf_joined))] H) (hD : va_D A [(xh, .inr (10, [.ref xa_bells, .ref xa_feasts, .ref xa_tape, .ref xa_reader, .ref xa_rules, .ref xa_monks, .ref xa_duties, .ref xa_gifts, .ref xa_figures, .int 0, .int 0, .int 0, .int 0, .int (-1), .int 0])), (xa_monks, .inr (5, [.ref xma_priests, .ref xma_barred, .ref xma_cameOn, .ref xma_absent, .ref xma_absentFrom, .ref xma_absentTo, .int 0, .int 0])), (xma_priests, .inl (cZ, 24, .inl xmf_priests)), (xma_barred, .inl (cI, 24, .inl xmf_barred)), (xma_cameOn, .inl (cI, 24, .inl xmf_cameOn)), (yh, .inr (11, [.int 0, .int 0, .int 0, .int 0, .int 0, .int 0, .int 0, .int 0, .int 0, .ref ya_isPriest, .ref ya_bars, .ref ya_joined, .ref ya_turns, .ref ya_awayMonk, .ref ya_awayFrom, .ref ya_awayTo, .ref ya_feastDay, .ref ya_rank, .ref ya_isWeekly, .ref ya_isDouble, .ref ya_giftDay, .ref ya_giftFrom, .ref ya_owed, .ref ya_said, .ref ya_spared, .ref ya_leaveGift, .ref ya_leaveFrom, .ref ya_leaveTo, .ref ya_lateDay, .ref ya_lateOffice, .ref ya_lateBy, .ref ya_guests, .ref ya_who, .ref ya_used, .ref ya_lacks, .ref ya_candles, .ref ya_masses, .ref ya_owing, .ref ya_heldOn, .ref ya_waits, .ref ya_tape, .ref ya_text, .int 0, .int 0, .int 0, .int (-1), .int 0, .ref ya_statements, .ref ya_taken, .ref ya_sort, .ref ya_first, .ref ya_second, .int 0, .int 0])), (ya_isPriest, .inl (cZ, 24, .inl yf_isPriest)), (ya_bars, .inl (cI, 24, .inl yf_bars)), (ya_joined, .inl (cI, 24, .inl yf_joined))]) (hS : va_S A s.heap H locs) (ls : Array Slot) (hl : lv_has ls 4 [(3, .int 0), (2, .ref yh), (1, .ref xh), (0, .ref b)]) : W p l e room_1 s m #[Value.ref b] below meth c H locs 90 16895 (lw_Z below #[Value.ref b] s) (F0 m 140 ls []) := by
  have hts : ∀ w ∈ wsL_law, w.before #[Value.ref b] s = true := fun w h => hts0 w (wsL_law_in w h)
  have S : CallFix p m c cL_law 4 s #[Value.ref b] wsL_law RL := ⟨hx, hb, hml, hown, hts⟩
  have kk0 : (0 : Int32).toInt = 0 := by decide
  have kk1 : (1 : Int32).toInt = 1 := by decide
  have kk2 : (2 : Int32).toInt = 2 := by decide
  have kk3 : (3 : Int32).toInt = 3 := by decide
  have kk4 : (4 : Int32).toInt = 4 := by decide
  have kk5 : (5 : Int32).toInt = 5 := by decide
  have kk6 : (6 : Int32).toInt = 6 := by decide
  have kk31 : (31 : Int32).toInt = 31 := by decide
  have kkm1 : (-1 : Int32).toInt = -1 := by decide
  refine lv_aload_n hx hb dL_law_140 rfl (lv_at hl 2 rfl) ?_
  refine lv_aload_n hx hb dL_law_141 rfl (lv_at hl 3 rfl) ?_
  refine lv_iload_n hx hb dL_law_142 rfl (lv_at hl 0 rfl) ?_
  refine lv_iconst (v := 1) hx hb dL_law_143 (by decide) ?_
  refine lv_iadd hx hb dL_law_144 ?_
  refine lv_topi (fun x_1 ex_1 => ?_)
  obtain rfl : x_1 = 1 := by rw [ex_1]; decide
  refine va_sld hx hb hX hbl hbA hS (t_in (by omega) (by omega)) dL_law_145 ?_
  refine lv_if_eq (tgt := 153) hx hb dL_law_146 (by decide) (fun c_2 => ?_) (fun c_2 => ?_)
  · have tc_2 := t_eq c_2
    refine lv_iconst (v := 0) hx hb dL_law_153 (by decide) ?_
    refine lv_aload_n hx hb dL_law_154 rfl (lv_at hl 3 rfl) ?_
    refine lv_iload_n hx hb dL_law_155 rfl (lv_at hl 0 rfl) ?_
    refine lv_iconst (v := 2) hx hb dL_law_156 (by decide) ?_
    refine lv_iadd hx hb dL_law_157 ?_
    refine lv_topi (fun x_3 ex_3 => ?_)
    obtain rfl : x_3 = 2 := by rw [ex_3]; decide
    refine va_sld hx hb hX hbl hbA hS (t_in (by omega) (by omega)) dL_law_158 ?_
    have hPc := hP.sub (ws' := [(xh, .inr (10, [.ref xa_bells, .ref xa_feasts, .ref xa_tape, .ref xa_reader, .ref xa_rules, .ref xa_monks, .ref xa_duties, .ref xa_gifts, .ref xa_figures, .int 0, .int 0, .int 0, .int 0, .int (-1), .int 0])), (xa_monks, .inr (5, [.ref xma_priests, .ref xma_barred, .ref xma_cameOn, .ref xma_absent, .ref xma_absentFrom, .ref xma_absentTo, .int 0, .int 0])), (xma_priests, .inl (cZ, 24, .inl xmf_priests)), (xma_barred, .inl (cI, 24, .inl xmf_barred)), (xma_cameOn, .inl (cI, 24, .inl xmf_cameOn))]) [0, 1, 2, 3, 4] rfl
    refine rwV (As := [.int 0, .int (xs (2 : Int32).toNatClampNeg)]) (rest := []) (wc := [(xh, .inr (10, [.ref xa_bells, .ref xa_feasts, .ref xa_tape, .ref xa_reader, .ref xa_rules, .ref xa_monks, .ref xa_duties, .ref xa_gifts, .ref xa_figures, .int 0, .int 0, .int 0, .int 0, .int (-1), .int 0])), (xa_monks, .inr (5, [.ref xma_priests, .ref xma_barred, .ref xma_cameOn, .ref xma_absent, .ref xma_absentFrom, .ref xma_absentTo, .int 0, .int 0])), (xma_priests, .inl (cZ, 24, .inl xmf_priests)), (xma_barred, .inl (cI, 24, .inl xmf_barred)), (xma_cameOn, .inl (cI, 24, .inl xmf_cameOn))]) (wr := [(yh, .inr (11, [.int 0, .int 0, .int 0, .int 0, .int 0, .int 0, .int 0, .int 0, .int 0, .ref ya_isPriest, .ref ya_bars, .ref ya_joined, .ref ya_turns, .ref ya_awayMonk, .ref ya_awayFrom, .ref ya_awayTo, .ref ya_feastDay, .ref ya_rank, .ref ya_isWeekly, .ref ya_isDouble, .ref ya_giftDay, .ref ya_giftFrom, .ref ya_owed, .ref ya_said, .ref ya_spared, .ref ya_leaveGift, .ref ya_leaveFrom, .ref ya_leaveTo, .ref ya_lateDay, .ref ya_lateOffice, .ref ya_lateBy, .ref ya_guests, .ref ya_who, .ref ya_used, .ref ya_lacks, .ref ya_candles, .ref ya_masses, .ref ya_owing, .ref ya_heldOn, .ref ya_waits, .ref ya_tape, .ref ya_text, .int 0, .int 0, .int 0, .int (-1), .int 0, .ref ya_statements, .ref ya_taken, .ref ya_sort, .ref ya_first, .ref ya_second, .int 0, .int 0])), (ya_isPriest, .inl (cZ, 24, .inl yf_isPriest)), (ya_bars, .inl (cI, 24, .inl yf_bars)), (ya_joined, .inl (cI, 24, .inl yf_joined))]) S (p_monk  ) (cwV 2 hts gL_law_X11_monk rfl rfl rfl (by decide +kernel) ⟨Nat.le_of_ble_eq_true rfl, Nat.le_of_ble_eq_true rfl⟩) hK hP hD hS hA [0, 1, 2, 3, 4] [5, 6, 7, 8] rfl rfl (by decide) (by decide) (by decide) (va_recv hK.1 hPc (ci := 10) (q0 := 0) rfl rfl) rfl hl.1 rfl (Nat.le_of_ble_eq_true rfl) dL_law_159 ⟨Nat.le_of_ble_eq_true rfl, Nat.le_of_ble_eq_true rfl⟩ (fun r_a u_a H locs hw_a hP hD hS => ?_)
    obtain ⟨n1_a, f1_a, f2_a, f3_a⟩ := u_a
    have hw_a : ((0 ≤ (xs (2 : Int32).toNatClampNeg).toInt ∧ (xs (2 : Int32).toNatClampNeg).toInt ≤ 15) → r_a.toInt = 0) ∧ (¬ (0 ≤ (xs (2 : Int32).toNatClampNeg).toInt ∧ (xs (2 : Int32).toNatClampNeg).toInt ≤ 15) → r_a.toInt = -1) := hw_a
    have hP : va_P D vwCl [(yh, .inr (11, [.int 0, .int 0, .int 0, .int 0, .int 0, .int 0, .int 0, .int 0, .int 0, .ref ya_isPriest, .ref ya_bars, .ref ya_joined, .ref ya_turns, .ref ya_awayMonk, .ref ya_awayFrom, .ref ya_awayTo, .ref ya_feastDay, .ref ya_rank, .ref ya_isWeekly, .ref ya_isDouble, .ref ya_giftDay, .ref ya_giftFrom, .ref ya_owed, .ref ya_said, .ref ya_spared, .ref ya_leaveGift, .ref ya_leaveFrom, .ref ya_leaveTo, .ref ya_lateDay, .ref ya_lateOffice, .ref ya_lateBy, .ref ya_guests, .ref ya_who, .ref ya_used, .ref ya_lacks, .ref ya_candles, .ref ya_masses, .ref ya_owing, .ref ya_heldOn, .ref ya_waits, .ref ya_tape, .ref ya_text, .int 0, .int 0, .int 0, .int (-1), .int 0, .ref ya_statements, .ref ya_taken, .ref ya_sort, .ref ya_first, .ref ya_second, .int 0, .int 0])), (ya_isPriest, .inl (cZ, 24, .inl yf_isPriest)), (ya_bars, .inl (cI, 24, .inl yf_bars)), (ya_joined, .inl (cI, 24, .inl yf_joined)), (xh, .inr (10, [.ref xa_bells, .ref xa_feasts, .ref xa_tape, .ref xa_reader, .ref xa_rules, .ref xa_monks, .ref xa_duties, .ref xa_gifts, .ref xa_figures, .int 0, .int 0, .int 0, .int 0, .int (-1), .int 0])), (xa_monks, .inr (5, [.ref xma_priests, .ref xma_barred, .ref xma_cameOn, .ref xma_absent, .ref xma_absentFrom, .ref xma_absentTo, .int n1_a, .int 0])), (xma_priests, .inl (cZ, 24, .inl f1_a)), (xma_barred, .inl (cI, 24, .inl f2_a)), (xma_cameOn, .inl (cI, 24, .inl f3_a))] H := hP
    have hD : va_D A [(yh, .inr (11, [.int 0, .int 0, .int 0, .int 0, .int 0, .int 0, .int 0, .int 0, .int 0, .ref ya_isPriest, .ref ya_bars, .ref ya_joined, .ref ya_turns, .ref ya_awayMonk, .ref ya_awayFrom, .ref ya_awayTo, .ref ya_feastDay, .ref ya_rank, .ref ya_isWeekly, .ref ya_isDouble, .ref ya_giftDay, .ref ya_giftFrom, .ref ya_owed, .ref ya_said, .ref ya_spared, .ref ya_leaveGift, .ref ya_leaveFrom, .ref ya_leaveTo, .ref ya_lateDay, .ref ya_lateOffice, .ref ya_lateBy, .ref ya_guests, .ref ya_who, .ref ya_used, .ref ya_lacks, .ref ya_candles, .ref ya_masses, .ref ya_owing, .ref ya_heldOn, .ref ya_waits, .ref ya_tape, .ref ya_text, .int 0, .int 0, .int 0, .int (-1), .int 0, .ref ya_statements, .ref ya_taken, .ref ya_sort, .ref ya_first, .ref ya_second, .int 0, .int 0])), (ya_isPriest, .inl (cZ, 24, .inl yf_isPriest)), (ya_bars, .inl (cI, 24, .inl yf_bars)), (ya_joined, .inl (cI, 24, .inl yf_joined)), (xh, .inr (10, [.ref xa_bells, .ref xa_feasts, .ref xa_tape, .ref xa_reader, .ref xa_rules, .ref xa_monks, .ref xa_duties, .ref xa_gifts, .ref xa_figures, .int 0, .int 0, .int 0, .int 0, .int (-1), .int 0])), (xa_monks, .inr (5, [.ref xma_priests, .ref xma_barred, .ref xma_cameOn, .ref xma_absent, .ref xma_absentFrom, .ref xma_absentTo, .int n1_a, .int 0])), (xma_priests, .inl (cZ, 24, .inl f1_a)), (xma_barred, .inl (cI, 24, .inl f2_a)), (xma_cameOn, .inl (cI, 24, .inl f3_a))] := hD
    refine lv_aload_n hx hb dL_law_162 rfl (lv_at hl 1 rfl) ?_
    refine lv_aload_n hx hb dL_law_163 rfl (lv_at hl 3 rfl) ?_
    refine lv_iload_n hx hb dL_law_164 rfl (lv_at hl 0 rfl) ?_
    refine lv_iconst (v := 1) hx hb dL_law_165 (by decide) ?_
    refine lv_iadd hx hb dL_law_166 ?_
    refine lv_topi (fun x_4 ex_4 => ?_)
    obtain rfl : x_4 = 1 := by rw [ex_4]; decide
    refine va_sld hx hb hX hbl hbA hS (t_in (by omega) (by omega)) dL_law_167 ?_
    refine lv_if_eq (tgt := 175) hx hb dL_law_168 (by decide) (fun c_5 => ?_) (fun c_5 => ?_)
    · have tc_5 := t_eq c_5
      refine lv_iconst (v := 0) hx hb dL_law_175 (by decide) ?_
      refine lv_aload_n hx hb dL_law_176 rfl (lv_at hl 3 rfl) ?_
      refine lv_iload_n hx hb dL_law_177 rfl (lv_at hl 0 rfl) ?_
      refine lv_iconst (v := 2) hx hb dL_law_178 (by decide) ?_
      refine lv_iadd hx hb dL_law_179 ?_
      refine lv_topi (fun x_6 ex_6 => ?_)
      obtain rfl : x_6 = 2 := by rw [ex_6]; decide
      refine va_sld hx hb hX hbl hbA hS (t_in (by omega) (by omega)) dL_law_180 ?_
      have hPc := hP.sub (ws' := [(yh, .inr (11, [.int 0, .int 0, .int 0, .int 0, .int 0, .int 0, .int 0, .int 0, .int 0, .ref ya_isPriest, .ref ya_bars, .ref ya_joined, .ref ya_turns, .ref ya_awayMonk, .ref ya_awayFrom, .ref ya_awayTo, .ref ya_feastDay, .ref ya_rank, .ref ya_isWeekly, .ref ya_isDouble, .ref ya_giftDay, .ref ya_giftFrom, .ref ya_owed, .ref ya_said, .ref ya_spared, .ref ya_leaveGift, .ref ya_leaveFrom, .ref ya_leaveTo, .ref ya_lateDay, .ref ya_lateOffice, .ref ya_lateBy, .ref ya_guests, .ref ya_who, .ref ya_used, .ref ya_lacks, .ref ya_candles, .ref ya_masses, .ref ya_owing, .ref ya_heldOn, .ref ya_waits, .ref ya_tape, .ref ya_text, .int 0, .int 0, .int 0, .int (-1), .int 0, .ref ya_statements, .ref ya_taken, .ref ya_sort, .ref ya_first, .ref ya_second, .int 0, .int 0])), (ya_isPriest, .inl (cZ, 24, .inl yf_isPriest)), (ya_bars, .inl (cI, 24, .inl yf_bars)), (ya_joined, .inl (cI, 24, .inl yf_joined))]) [0, 1, 2, 3] rfl
      refine rwV (As := [.int 0, .int (xs (2 : Int32).toNatClampNeg)]) (rest := [.int r_a]) (wc := [(yh, .inr (11, [.int 0, .int 0, .int 0, .int 0, .int 0, .int 0, .int 0, .int 0, .int 0, .ref ya_isPriest, .ref ya_bars, .ref ya_joined, .ref ya_turns, .ref ya_awayMonk, .ref ya_awayFrom, .ref ya_awayTo, .ref ya_feastDay, .ref ya_rank, .ref ya_isWeekly, .ref ya_isDouble, .ref ya_giftDay, .ref ya_giftFrom, .ref ya_owed, .ref ya_said, .ref ya_spared, .ref ya_leaveGift, .ref ya_leaveFrom, .ref ya_leaveTo, .ref ya_lateDay, .ref ya_lateOffice, .ref ya_lateBy, .ref ya_guests, .ref ya_who, .ref ya_used, .ref ya_lacks, .ref ya_candles, .ref ya_masses, .ref ya_owing, .ref ya_heldOn, .ref ya_waits, .ref ya_tape, .ref ya_text, .int 0, .int 0, .int 0, .int (-1), .int 0, .ref ya_statements, .ref ya_taken, .ref ya_sort, .ref ya_first, .ref ya_second, .int 0, .int 0])), (ya_isPriest, .inl (cZ, 24, .inl yf_isPriest)), (ya_bars, .inl (cI, 24, .inl yf_bars)), (ya_joined, .inl (cI, 24, .inl yf_joined))]) (wr := [(xh, .inr (10, [.ref xa_bells, .ref xa_feasts, .ref xa_tape, .ref xa_reader, .ref xa_rules, .ref xa_monks, .ref xa_duties, .ref xa_gifts, .ref xa_figures, .int 0, .int 0, .int 0, .int 0, .int (-1), .int 0])), (xa_monks, .inr (5, [.ref xma_priests, .ref xma_barred, .ref xma_cameOn, .ref xma_absent, .ref xma_absentFrom, .ref xma_absentTo, .int n1_a, .int 0])), (xma_priests, .inl (cZ, 24, .inl f1_a)), (xma_barred, .inl (cI, 24, .inl f2_a)), (xma_cameOn, .inl (cI, 24, .inl f3_a))]) S (q_monk  ) (cwV 2 hts gL_law_X12_monk rfl rfl rfl (by decide +kernel) ⟨Nat.le_of_ble_eq_true rfl, Nat.le_of_ble_eq_true rfl⟩) hK hP hD hS hA [0, 1, 2, 3] [4, 5, 6, 7, 8] rfl rfl (by decide) (by decide) (by decide) (va_recv hK.1 hPc (ci := 11) (q0 := 0) rfl rfl) rfl hl.1 rfl (Nat.le_of_ble_eq_true rfl) dL_law_181 ⟨Nat.le_of_ble_eq_true rfl, Nat.le_of_ble_eq_true rfl⟩ (fun r_b_ u_b_ H locs hw_b_ hP hD hS => ?_)
      obtain ⟨n1_b_, f1_b_, f2_b_, f3_b_⟩ := u_b_
      have hw_b_ : ((0 ≤ (xs (2 : Int32).toNatClampNeg).toInt ∧ (xs (2 : Int32).toNatClampNeg).toInt ≤ 15) → r_b_.toInt = 0) ∧ (¬ (0 ≤ (xs (2 : Int32).toNatClampNeg).toInt ∧ (xs (2 : Int32).toNatClampNeg).toInt ≤ 15) → r_b_.toInt = -1) := hw_b_
      have hP : va_P D vwCl [(xh, .inr (10, [.ref xa_bells, .ref xa_feasts, .ref xa_tape, .ref xa_reader, .ref xa_rules, .ref xa_monks, .ref xa_duties, .ref xa_gifts, .ref xa_figures, .int 0, .int 0, .int 0, .int 0, .int (-1), .int 0])), (xa_monks, .inr (5, [.ref xma_priests, .ref xma_barred, .ref xma_cameOn, .ref xma_absent, .ref xma_absentFrom, .ref xma_absentTo, .int n1_a, .int 0])), (xma_priests, .inl (cZ, 24, .inl f1_a)), (xma_barred, .inl (cI, 24, .inl f2_a)), (xma_cameOn, .inl (cI, 24, .inl f3_a)), (yh, .inr (11, [.int 0, .int n1_b_, .int 0, .int 0, .int 0, .int 0, .int 0, .int 0, .int 0, .ref ya_isPriest, .ref ya_bars, .ref ya_joined, .ref ya_turns, .ref ya_awayMonk, .ref ya_awayFrom, .ref ya_awayTo, .ref ya_feastDay, .ref ya_rank, .ref ya_isWeekly, .ref ya_isDouble, .ref ya_giftDay, .ref ya_giftFrom, .ref ya_owed, .ref ya_said, .ref ya_spared, .ref ya_leaveGift, .ref ya_leaveFrom, .ref ya_leaveTo, .ref ya_lateDay, .ref ya_lateOffice, .ref ya_lateBy, .ref ya_guests, .ref ya_who, .ref ya_used, .ref ya_lacks, .ref ya_candles, .ref ya_masses, .ref ya_owing, .ref ya_heldOn, .ref ya_waits, .ref ya_tape, .ref ya_text, .int 0, .int 0, .int 0, .int (-1), .int 0, .ref ya_statements, .ref ya_taken, .ref ya_sort, .ref ya_first, .ref ya_second, .int 0, .int 0])), (ya_isPriest, .inl (cZ, 24, .inl f1_b_)), (ya_bars, .inl (cI, 24, .inl f2_b_)), (ya_joined, .inl (cI, 24, .inl f3_b_))] H := hP
      have hD : va_D A [(xh, .inr (10, [.ref xa_bells, .ref xa_feasts, .ref xa_tape, .ref xa_reader, .ref xa_rules, .ref xa_monks, .ref xa_duties, .ref xa_gifts, .ref xa_figures, .int 0, .int 0, .int 0, .int 0, .int (-1), .int 0])), (xa_monks, .inr (5, [.ref xma_priests, .ref xma_barred, .ref xma_cameOn, .ref xma_absent, .ref xma_absentFrom, .ref xma_absentTo, .int n1_a, .int 0])), (xma_priests, .inl (cZ, 24, .inl f1_a)), (xma_barred, .inl (cI, 24, .inl f2_a)), (xma_cameOn, .inl (cI, 24, .inl f3_a)), (yh, .inr (11, [.int 0, .int n1_b_, .int 0, .int 0, .int 0, .int 0, .int 0, .int 0, .int 0, .ref ya_isPriest, .ref ya_bars, .ref ya_joined, .ref ya_turns, .ref ya_awayMonk, .ref ya_awayFrom, .ref ya_awayTo, .ref ya_feastDay, .ref ya_rank, .ref ya_isWeekly, .ref ya_isDouble, .ref ya_giftDay, .ref ya_giftFrom, .ref ya_owed, .ref ya_said, .ref ya_spared, .ref ya_leaveGift, .ref ya_leaveFrom, .ref ya_leaveTo, .ref ya_lateDay, .ref ya_lateOffice, .ref ya_lateBy, .ref ya_guests, .ref ya_who, .ref ya_used, .ref ya_lacks, .ref ya_candles, .ref ya_masses, .ref ya_owing, .ref ya_heldOn, .ref ya_waits, .ref ya_tape, .ref ya_text, .int 0, .int 0, .int 0, .int (-1), .int 0, .ref ya_statements, .ref ya_taken, .ref ya_sort, .ref ya_first, .ref ya_second, .int 0, .int 0])), (ya_isPriest, .inl (cZ, 24, .inl f1_b_)), (ya_bars, .inl (cI, 24, .inl f2_b_)), (ya_joined, .inl (cI, 24, .inl f3_b_))] := hD
      refine lv_icmp_eq (tgt := 917) hx hb dL_law_184 (by decide) (fun cmp => ?_) (fun cmp => ?_)
      · have tcmp := t_eq cmp
        obtain ⟨x_8, ex_8⟩ : ∃ y : Int32, y = 0 + 6 := ⟨_, rfl⟩
        obtain rfl : x_8 = 6 := by rw [ex_8]; decide
        refine lv_iinc (v := 6) (lv' := [(3, .int 6), (2, .ref yh), (1, .ref xh), (0, .ref b)]) hx hb dL_law_917 hl (k := 0) rfl (by decide) (by decide) rfl (fun ls hl => ?_)
        refine lv_goto (tgt := 18) hx hb dL_law_920 (by decide) ?_
        refine lv_iload_n hx hb dL_law_18 rfl (lv_at hl 0 rfl) ?_
        refine lv_aload_n hx hb dL_law_19 rfl (lv_at hl 3 rfl) ?_
        refine va_slen hx hb hX hbl hbA hS dL_law_20 ?_
        refine lv_topi (fun x_9 ex_9 => ?_)
        have tx_9 : x_9.toInt = L := by rw [ex_9]; exact nI_toInt (by omega)
        refine lv_bipush (v := 6) hx hb dL_law_21 (by decide) ?_
        refine lv_isub hx hb dL_law_23 ?_
        refine lv_topi (fun x_10 ex_10 => ?_)
        first | have tx_10 := t_sub ex_10 (by omega) (by omega) | skip
        refine lv_icmp_gt (tgt := 923) hx hb dL_law_24 (by decide) (fun c_11 => ?_) (fun c_11 => ?_)
        · have tc_11 := t_lt c_11
          refine lv_iconst (v := 1) hx hb dL_law_923 (by decide) ?_
          refine va_forget (fun q hq => hAs _ (hS.2.2 q hq)) ?_
          refine W.widen (k := 600000) (n := 7302250) (Nat.le_of_ble_eq_true rfl) (Nat.le_of_ble_eq_true rfl) ?_
          exact lw_ret hx hb hr hlocks dL_law_924
        · have tc_11 := t_nlt c_11
          exfalso; omega
      · have tcmp := t_neq cmp
        exact absurd (Int32.toInt_inj.mp (by omega)) cmp
    · have tc_5 := t_neq c_5
      exact absurd c_2 c_5
  · have tc_2 := t_neq c_2
    refine lv_iconst (v := 1) hx hb dL_law_149 (by decide) ?_
    refine lv_goto (tgt := 154) hx hb dL_law_150 (by decide) ?_
    refine lv_aload_n hx hb dL_law_154 rfl (lv_at hl 3 rfl) ?_
    refine lv_iload_n hx hb dL_law_155 rfl (lv_at hl 0 rfl) ?_
    refine lv_iconst (v := 2) hx hb dL_law_156 (by decide) ?_
    refine lv_iadd hx hb dL_law_157 ?_
    refine lv_topi (fun x_12 ex_12 => ?_)
    obtain rfl : x_12 = 2 := by rw [ex_12]; decide
    refine va_sld hx hb hX hbl hbA hS (t_in (by omega) (by omega)) dL_law_158 ?_
    have hPc := hP.sub (ws' := [(xh, .inr (10, [.ref xa_bells, .ref xa_feasts, .ref xa_tape, .ref xa_reader, .ref xa_rules, .ref xa_monks, .ref xa_duties, .ref xa_gifts, .ref xa_figures, .int 0, .int 0, .int 0, .int 0, .int (-1), .int 0])), (xa_monks, .inr (5, [.ref xma_priests, .ref xma_barred, .ref xma_cameOn, .ref xma_absent, .ref xma_absentFrom, .ref xma_absentTo, .int 0, .int 0])), (xma_priests, .inl (cZ, 24, .inl xmf_priests)), (xma_barred, .inl (cI, 24, .inl xmf_barred)), (xma_cameOn, .inl (cI, 24, .inl xmf_cameOn))]) [0, 1, 2, 3, 4] rfl
    refine rwV (As := [.int 1, .int (xs (2 : Int32).toNatClampNeg)]) (rest := []) (wc := [(xh, .inr (10, [.ref xa_bells, .ref xa_feasts, .ref xa_tape, .ref xa_reader, .ref xa_rules, .ref xa_monks, .ref xa_duties, .ref xa_gifts, .ref xa_figures, .int 0, .int 0, .int 0, .int 0, .int (-1), .int 0])), (xa_monks, .inr (5, [.ref xma_priests, .ref xma_barred, .ref xma_cameOn, .ref xma_absent, .ref xma_absentFrom, .ref xma_absentTo, .int 0, .int 0])), (xma_priests, .inl (cZ, 24, .inl xmf_priests)), (xma_barred, .inl (cI, 24, .inl xmf_barred)), (xma_cameOn, .inl (cI, 24, .inl xmf_cameOn))]) (wr := [(yh, .inr (11, [.int 0, .int 0, .int 0, .int 0, .int 0, .int 0, .int 0, .int 0, .int 0, .ref ya_isPriest, .ref ya_bars, .ref ya_joined, .ref ya_turns, .ref ya_awayMonk, .ref ya_awayFrom, .ref ya_awayTo, .ref ya_feastDay, .ref ya_rank, .ref ya_isWeekly, .ref ya_isDouble, .ref ya_giftDay, .ref ya_giftFrom, .ref ya_owed, .ref ya_said, .ref ya_spared, .ref ya_leaveGift, .ref ya_leaveFrom, .ref ya_leaveTo, .ref ya_lateDay, .ref ya_lateOffice, .ref ya_lateBy, .ref ya_guests, .ref ya_who, .ref ya_used, .ref ya_lacks, .ref ya_candles, .ref ya_masses, .ref ya_owing, .ref ya_heldOn, .ref ya_waits, .ref ya_tape, .ref ya_text, .int 0, .int 0, .int 0, .int (-1), .int 0, .ref ya_statements, .ref ya_taken, .ref ya_sort, .ref ya_first, .ref ya_second, .int 0, .int 0])), (ya_isPriest, .inl (cZ, 24, .inl yf_isPriest)), (ya_bars, .inl (cI, 24, .inl yf_bars)), (ya_joined, .inl (cI, 24, .inl yf_joined))]) S (p_monk  ) (cwV 2 hts gL_law_X11_monk rfl rfl rfl (by decide +kernel) ⟨Nat.le_of_ble_eq_true rfl, Nat.le_of_ble_eq_true rfl⟩) hK hP hD hS hA [0, 1, 2, 3, 4] [5, 6, 7, 8] rfl rfl (by decide) (by decide) (by decide) (va_recv hK.1 hPc (ci := 10) (q0 := 0) rfl rfl) rfl hl.1 rfl (Nat.le_of_ble_eq_true rfl) dL_law_159 ⟨Nat.le_of_ble_eq_true rfl, Nat.le_of_ble_eq_true rfl⟩ (fun r_a u_a H locs hw_a hP hD hS => ?_)
    obtain ⟨n1_a, f1_a, f2_a, f3_a⟩ := u_a
    have hw_a : ((0 ≤ (xs (2 : Int32).toNatClampNeg).toInt ∧ (xs (2 : Int32).toNatClampNeg).toInt ≤ 15) → r_a.toInt = 0) ∧ (¬ (0 ≤ (xs (2 : Int32).toNatClampNeg).toInt ∧ (xs (2 : Int32).toNatClampNeg).toInt ≤ 15) → r_a.toInt = -1) := hw_a
    have hP : va_P D vwCl [(yh, .inr (11, [.int 0, .int 0, .int 0, .int 0, .int 0, .int 0, .int 0, .int 0, .int 0, .ref ya_isPriest, .ref ya_bars, .ref ya_joined, .ref ya_turns, .ref ya_awayMonk, .ref ya_awayFrom, .ref ya_awayTo, .ref ya_feastDay, .ref ya_rank, .ref ya_isWeekly, .ref ya_isDouble, .ref ya_giftDay, .ref ya_giftFrom, .ref ya_owed, .ref ya_said, .ref ya_spared, .ref ya_leaveGift, .ref ya_leaveFrom, .ref ya_leaveTo, .ref ya_lateDay, .ref ya_lateOffice, .ref ya_lateBy, .ref ya_guests, .ref ya_who, .ref ya_used, .ref ya_lacks, .ref ya_candles, .ref ya_masses, .ref ya_owing, .ref ya_heldOn, .ref ya_waits, .ref ya_tape, .ref ya_text, .int 0, .int 0, .int 0, .int (-1), .int 0, .ref ya_statements, .ref ya_taken, .ref ya_sort, .ref ya_first, .ref ya_second, .int 0, .int 0])), (ya_isPriest, .inl (cZ, 24, .inl yf_isPriest)), (ya_bars, .inl (cI, 24, .inl yf_bars)), (ya_joined, .inl (cI, 24, .inl yf_joined)), (xh, .inr (10, [.ref xa_bells, .ref xa_feasts, .ref xa_tape, .ref xa_reader, .ref xa_rules, .ref xa_monks, .ref xa_duties, .ref xa_gifts, .ref xa_figures, .int 0, .int 0, .int 0, .int 0, .int (-1), .int 0])), (xa_monks, .inr (5, [.ref xma_priests, .ref xma_barred, .ref xma_cameOn, .ref xma_absent, .ref xma_absentFrom, .ref xma_absentTo, .int n1_a, .int 0])), (xma_priests, .inl (cZ, 24, .inl f1_a)), (xma_barred, .inl (cI, 24, .inl f2_a)), (xma_cameOn, .inl (cI, 24, .inl f3_a))] H := hP
    have hD : va_D A [(yh, .inr (11, [.int 0, .int 0, .int 0, .int 0, .int 0, .int 0, .int 0, .int 0, .int 0, .ref ya_isPriest, .ref ya_bars, .ref ya_joined, .ref ya_turns, .ref ya_awayMonk, .ref ya_awayFrom, .ref ya_awayTo, .ref ya_feastDay, .ref ya_rank, .ref ya_isWeekly, .ref ya_isDouble, .ref ya_giftDay, .ref ya_giftFrom, .ref ya_owed, .ref ya_said, .ref ya_spared, .ref ya_leaveGift, .ref ya_leaveFrom, .ref ya_leaveTo, .ref ya_lateDay, .ref ya_lateOffice, .ref ya_lateBy, .ref ya_guests, .ref ya_who, .ref ya_used, .ref ya_lacks, .ref ya_candles, .ref ya_masses, .ref ya_owing, .ref ya_heldOn, .ref ya_waits, .ref ya_tape, .ref ya_text, .int 0, .int 0, .int 0, .int (-1), .int 0, .ref ya_statements, .ref ya_taken, .ref ya_sort, .ref ya_first, .ref ya_second, .int 0, .int 0])), (ya_isPriest, .inl (cZ, 24, .inl yf_isPriest)), (ya_bars, .inl (cI, 24, .inl yf_bars)), (ya_joined, .inl (cI, 24, .inl yf_joined)), (xh, .inr (10, [.ref xa_bells, .ref xa_feasts, .ref xa_tape, .ref xa_reader, .ref xa_rules, .ref xa_monks, .ref xa_duties, .ref xa_gifts, .ref xa_figures, .int 0, .int 0, .int 0, .int 0, .int (-1), .int 0])), (xa_monks, .inr (5, [.ref xma_priests, .ref xma_barred, .ref xma_cameOn, .ref xma_absent, .ref xma_absentFrom, .ref xma_absentTo, .int n1_a, .int 0])), (xma_priests, .inl (cZ, 24, .inl f1_a)), (xma_barred, .inl (cI, 24, .inl f2_a)), (xma_cameOn, .inl (cI, 24, .inl f3_a))] := hD
    refine lv_aload_n hx hb dL_law_162 rfl (lv_at hl 1 rfl) ?_
    refine lv_aload_n hx hb dL_law_163 rfl (lv_at hl 3 rfl) ?_
    refine lv_iload_n hx hb dL_law_164 rfl (lv_at hl 0 rfl) ?_
    refine lv_iconst (v := 1) hx hb dL_law_165 (by decide) ?_
    refine lv_iadd hx hb dL_law_166 ?_
    refine lv_topi (fun x_13 ex_13 => ?_)
    obtain rfl : x_13 = 1 := by rw [ex_13]; decide
    refine va_sld hx hb hX hbl hbA hS (t_in (by omega) (by omega)) dL_law_167 ?_
    refine lv_if_eq (tgt := 175) hx hb dL_law_168 (by decide) (fun c_14 => ?_) (fun c_14 => ?_)
    · have tc_14 := t_eq c_14
      exact absurd c_14 c_2
    · have tc_14 := t_neq c_14
      refine lv_iconst (v := 1) hx hb dL_law_171 (by decide) ?_
      refine lv_goto (tgt := 176) hx hb dL_law_172 (by decide) ?_
      refine lv_aload_n hx hb dL_law_176 rfl (lv_at hl 3 rfl) ?_
      refine lv_iload_n hx hb dL_law_177 rfl (lv_at hl 0 rfl) ?_
      refine lv_iconst (v := 2) hx hb dL_law_178 (by decide) ?_
      refine lv_iadd hx hb dL_law_179 ?_
      refine lv_topi (fun x_15 ex_15 => ?_)
      obtain rfl : x_15 = 2 := by rw [ex_15]; decide
      refine va_sld hx hb hX hbl hbA hS (t_in (by omega) (by omega)) dL_law_180 ?_
      have hPc := hP.sub (ws' := [(yh, .inr (11, [.int 0, .int 0, .int 0, .int 0, .int 0, .int 0, .int 0, .int 0, .int 0, .ref ya_isPriest, .ref ya_bars, .ref ya_joined, .ref ya_turns, .ref ya_awayMonk, .ref ya_awayFrom, .ref ya_awayTo, .ref ya_feastDay, .ref ya_rank, .ref ya_isWeekly, .ref ya_isDouble, .ref ya_giftDay, .ref ya_giftFrom, .ref ya_owed, .ref ya_said, .ref ya_spared, .ref ya_leaveGift, .ref ya_leaveFrom, .ref ya_leaveTo, .ref ya_lateDay, .ref ya_lateOffice, .ref ya_lateBy, .ref ya_guests, .ref ya_who, .ref ya_used, .ref ya_lacks, .ref ya_candles, .ref ya_masses, .ref ya_owing, .ref ya_heldOn, .ref ya_waits, .ref ya_tape, .ref ya_text, .int 0, .int 0, .int 0, .int (-1), .int 0, .ref ya_statements, .ref ya_taken, .ref ya_sort, .ref ya_first, .ref ya_second, .int 0, .int 0])), (ya_isPriest, .inl (cZ, 24, .inl yf_isPriest)), (ya_bars, .inl (cI, 24, .inl yf_bars)), (ya_joined, .inl (cI, 24, .inl yf_joined))]) [0, 1, 2, 3] rfl
      refine rwV (As := [.int 1, .int (xs (2 : Int32).toNatClampNeg)]) (rest := [.int r_a]) (wc := [(yh, .inr (11, [.int 0, .int 0, .int 0, .int 0, .int 0, .int 0, .int 0, .int 0, .int 0, .ref ya_isPriest, .ref ya_bars, .ref ya_joined, .ref ya_turns, .ref ya_awayMonk, .ref ya_awayFrom, .ref ya_awayTo, .ref ya_feastDay, .ref ya_rank, .ref ya_isWeekly, .ref ya_isDouble, .ref ya_giftDay, .ref ya_giftFrom, .ref ya_owed, .ref ya_said, .ref ya_spared, .ref ya_leaveGift, .ref ya_leaveFrom, .ref ya_leaveTo, .ref ya_lateDay, .ref ya_lateOffice, .ref ya_lateBy, .ref ya_guests, .ref ya_who, .ref ya_used, .ref ya_lacks, .ref ya_candles, .ref ya_masses, .ref ya_owing, .ref ya_heldOn, .ref ya_waits, .ref ya_tape, .ref ya_text, .int 0, .int 0, .int 0, .int (-1), .int 0, .ref ya_statements, .ref ya_taken, .ref ya_sort, .ref ya_first, .ref ya_second, .int 0, .int 0])), (ya_isPriest, .inl (cZ, 24, .inl yf_isPriest)), (ya_bars, .inl (cI, 24, .inl yf_bars)), (ya_joined, .inl (cI, 24, .inl yf_joined))]) (wr := [(xh, .inr (10, [.ref xa_bells, .ref xa_feasts, .ref xa_tape, .ref xa_reader, .ref xa_rules, .ref xa_monks, .ref xa_duties, .ref xa_gifts, .ref xa_figures, .int 0, .int 0, .int 0, .int 0, .int (-1), .int 0])), (xa_monks, .inr (5, [.ref xma_priests, .ref xma_barred, .ref xma_cameOn, .ref xma_absent, .ref xma_absentFrom, .ref xma_absentTo, .int n1_a, .int 0])), (xma_priests, .inl (cZ, 24, .inl f1_a)), (xma_barred, .inl (cI, 24, .inl f2_a)), (xma_cameOn, .inl (cI, 24, .inl f3_a))]) S (q_monk  ) (cwV 2 hts gL_law_X12_monk rfl rfl rfl (by decide +kernel) ⟨Nat.le_of_ble_eq_true rfl, Nat.le_of_ble_eq_true rfl⟩) hK hP hD hS hA [0, 1, 2, 3] [4, 5, 6, 7, 8] rfl rfl (by decide) (by decide) (by decide) (va_recv hK.1 hPc (ci := 11) (q0 := 0) rfl rfl) rfl hl.1 rfl (Nat.le_of_ble_eq_true rfl) dL_law_181 ⟨Nat.le_of_ble_eq_true rfl, Nat.le_of_ble_eq_true rfl⟩ (fun r_b_ u_b_ H locs hw_b_ hP hD hS => ?_)
      obtain ⟨n1_b_, f1_b_, f2_b_, f3_b_⟩ := u_b_
      have hw_b_ : ((0 ≤ (xs (2 : Int32).toNatClampNeg).toInt ∧ (xs (2 : Int32).toNatClampNeg).toInt ≤ 15) → r_b_.toInt = 0) ∧ (¬ (0 ≤ (xs (2 : Int32).toNatClampNeg).toInt ∧ (xs (2 : Int32).toNatClampNeg).toInt ≤ 15) → r_b_.toInt = -1) := hw_b_
      have hP : va_P D vwCl [(xh, .inr (10, [.ref xa_bells, .ref xa_feasts, .ref xa_tape, .ref xa_reader, .ref xa_rules, .ref xa_monks, .ref xa_duties, .ref xa_gifts, .ref xa_figures, .int 0, .int 0, .int 0, .int 0, .int (-1), .int 0])), (xa_monks, .inr (5, [.ref xma_priests, .ref xma_barred, .ref xma_cameOn, .ref xma_absent, .ref xma_absentFrom, .ref xma_absentTo, .int n1_a, .int 0])), (xma_priests, .inl (cZ, 24, .inl f1_a)), (xma_barred, .inl (cI, 24, .inl f2_a)), (xma_cameOn, .inl (cI, 24, .inl f3_a)), (yh, .inr (11, [.int 0, .int n1_b_, .int 0, .int 0, .int 0, .int 0, .int 0, .int 0, .int 0, .ref ya_isPriest, .ref ya_bars, .ref ya_joined, .ref ya_turns, .ref ya_awayMonk, .ref ya_awayFrom, .ref ya_awayTo, .ref ya_feastDay, .ref ya_rank, .ref ya_isWeekly, .ref ya_isDouble, .ref ya_giftDay, .ref ya_giftFrom, .ref ya_owed, .ref ya_said, .ref ya_spared, .ref ya_leaveGift, .ref ya_leaveFrom, .ref ya_leaveTo, .ref ya_lateDay, .ref ya_lateOffice, .ref ya_lateBy, .ref ya_guests, .ref ya_who, .ref ya_used, .ref ya_lacks, .ref ya_candles, .ref ya_masses, .ref ya_owing, .ref ya_heldOn, .ref ya_waits, .ref ya_tape, .ref ya_text, .int 0, .int 0, .int 0, .int (-1), .int 0, .ref ya_statements, .ref ya_taken, .ref ya_sort, .ref ya_first, .ref ya_second, .int 0, .int 0])), (ya_isPriest, .inl (cZ, 24, .inl f1_b_)), (ya_bars, .inl (cI, 24, .inl f2_b_)), (ya_joined, .inl (cI, 24, .inl f3_b_))] H := hP
      have hD : va_D A [(xh, .inr (10, [.ref xa_bells, .ref xa_feasts, .ref xa_tape, .ref xa_reader, .ref xa_rules, .ref xa_monks, .ref xa_duties, .ref xa_gifts, .ref xa_figures, .int 0, .int 0, .int 0, .int 0, .int (-1), .int 0])), (xa_monks, .inr (5, [.ref xma_priests, .ref xma_barred, .ref xma_cameOn, .ref xma_absent, .ref xma_absentFrom, .ref xma_absentTo, .int n1_a, .int 0])), (xma_priests, .inl (cZ, 24, .inl f1_a)), (xma_barred, .inl (cI, 24, .inl f2_a)), (xma_cameOn, .inl (cI, 24, .inl f3_a)), (yh, .inr (11, [.int 0, .int n1_b_, .int 0, .int 0, .int 0, .int 0, .int 0, .int 0, .int 0, .ref ya_isPriest, .ref ya_bars, .ref ya_joined, .ref ya_turns, .ref ya_awayMonk, .ref ya_awayFrom, .ref ya_awayTo, .ref ya_feastDay, .ref ya_rank, .ref ya_isWeekly, .ref ya_isDouble, .ref ya_giftDay, .ref ya_giftFrom, .ref ya_owed, .ref ya_said, .ref ya_spared, .ref ya_leaveGift, .ref ya_leaveFrom, .ref ya_leaveTo, .ref ya_lateDay, .ref ya_lateOffice, .ref ya_lateBy, .ref ya_guests, .ref ya_who, .ref ya_used, .ref ya_lacks, .ref ya_candles, .ref ya_masses, .ref ya_owing, .ref ya_heldOn, .ref ya_waits, .ref ya_tape, .ref ya_text, .int 0, .int 0, .int 0, .int (-1), .int 0, .ref ya_statements, .ref ya_taken, .ref ya_sort, .ref ya_first, .ref ya_second, .int 0, .int 0])), (ya_isPriest, .inl (cZ, 24, .inl f1_b_)), (ya_bars, .inl (cI, 24, .inl f2_b_)), (ya_joined, .inl (cI, 24, .inl f3_b_))] := hD
      refine lv_icmp_eq (tgt := 917) hx hb dL_law_184 (by decide) (fun cmp => ?_) (fun cmp => ?_)
      · have tcmp := t_eq cmp
        obtain ⟨x_17, ex_17⟩ : ∃ y : Int32, y = 0 + 6 := ⟨_, rfl⟩
        obtain rfl : x_17 = 6 := by rw [ex_17]; decide
        refine lv_iinc (v := 6) (lv' := [(3, .int 6), (2, .ref yh), (1, .ref xh), (0, .ref b)]) hx hb dL_law_917 hl (k := 0) rfl (by decide) (by decide) rfl (fun ls hl => ?_)
        refine lv_goto (tgt := 18) hx hb dL_law_920 (by decide) ?_
        refine lv_iload_n hx hb dL_law_18 rfl (lv_at hl 0 rfl) ?_
        refine lv_aload_n hx hb dL_law_19 rfl (lv_at hl 3 rfl) ?_
        refine va_slen hx hb hX hbl hbA hS dL_law_20 ?_
        refine lv_topi (fun x_18 ex_18 => ?_)
        have tx_18 : x_18.toInt = L := by rw [ex_18]; exact nI_toInt (by omega)
        refine lv_bipush (v := 6) hx hb dL_law_21 (by decide) ?_
        refine lv_isub hx hb dL_law_23 ?_
        refine lv_topi (fun x_19 ex_19 => ?_)
        first | have tx_19 := t_sub ex_19 (by omega) (by omega) | skip
        refine lv_icmp_gt (tgt := 923) hx hb dL_law_24 (by decide) (fun c_20 => ?_) (fun c_20 => ?_)
        · have tc_20 := t_lt c_20
          refine lv_iconst (v := 1) hx hb dL_law_923 (by decide) ?_
          refine va_forget (fun q hq => hAs _ (hS.2.2 q hq)) ?_
          refine W.widen (k := 600000) (n := 7302250) (Nat.le_of_ble_eq_true rfl) (Nat.le_of_ble_eq_true rfl) ?_
          exact lw_ret hx hb hr hlocks dL_law_924
        · have tc_20 := t_nlt c_20
          exfalso; omega
      · have tcmp := t_neq cmp
        exact absurd (Int32.toInt_inj.mp (by omega)) cmp

set_option maxHeartbeats 8000000 in
set_option maxRecDepth 100000 in
theorem law_case1 {p : Program} {e : Env} {s : State} {m : MethodId} {below : List Frame} {meth : Method} {c : Code} {l : Launch} {b L : Nat} {xs : Nat → Int32} {D : va_G} {cI cZ cB : ClassId} {A : Nat → Prop} {xh xa_bells xa_feasts xa_tape xa_reader xa_rules xa_monks xa_duties xa_gifts xa_figures xma_priests xma_barred xma_cameOn xma_absent xma_absentFrom xma_absentTo yh ya_isPriest ya_bars ya_joined ya_turns ya_awayMonk ya_awayFrom ya_awayTo ya_feastDay ya_rank ya_isWeekly ya_isDouble ya_giftDay ya_giftFrom ya_owed ya_said ya_spared ya_leaveGift ya_leaveFrom ya_leaveTo ya_lateDay ya_lateOffice ya_lateBy ya_guests ya_who ya_used ya_lacks ya_candles ya_masses ya_owing ya_heldOn ya_waits ya_tape ya_text ya_statements ya_taken ya_sort ya_first ya_second : Nat}  (hx : p.tables.exec = Jvm.exec) (hb : c.code = cL_law) (hr : meth.sig.returnType = ret) (hml : c.maxLocals = 4) (hown : s.vm.findClass RL = some m.cls) (hts0 : ∀ w ∈ lw_tbl, w.before #[Value.ref b] s = true) (hX : va_X b L xs s s.heap) (hbl : b < s.heap.size) (hlocks : meth.locks = false) (hK : KK D cI cZ cB s) (hA : ∀ q : Nat, s.heap.size ≤ q → A q) (hAs : ∀ q : Nat, A q → s.heap.size ≤ q) (hbA : ¬ A b) (hL : L ≤ 6) (h6 : 6 ≤ L) {H : Heap} {locs : List Loc} (hP : va_P D vwCl [(xh, .inr (10, [.ref xa_bells, .ref xa_feasts, .ref xa_tape, .ref xa_reader, .ref xa_rules, .ref xa_monks, .ref xa_duties, .ref xa_gifts, .ref xa_figures, .int 0, .int 0, .int 0, .int 0, .int (-1), .int 0])), (xa_monks, .inr (5, [.ref xma_priests, .ref xma_barred, .ref xma_cameOn, .ref xma_absent, .ref xma_absentFrom, .ref xma_absentTo, .int 0, .int 0])), (yh, .inr (11, [.int 0, .int 0, .int 0, .int 0, .int 0, .int 0, .int 0, .int 0, .int 0, .ref ya_isPriest, .ref ya_bars, .ref ya_joined, .ref ya_turns, .ref ya_awayMonk, .ref ya_awayFrom, .ref ya_awayTo, .ref ya_feastDay, .ref ya_rank, .ref ya_isWeekly, .ref ya_isDouble, .ref ya_giftDay, .ref ya_giftFrom, .ref ya_owed, .ref ya_said, .ref ya_spared, .ref ya_leaveGift, .ref ya_leaveFrom, .ref ya_leaveTo, .ref ya_lateDay, .ref ya_lateOffice, .ref ya_lateBy, .ref ya_guests, .ref ya_who, .ref ya_used, .ref ya_lacks, .ref ya_candles, .ref ya_masses, .ref ya_owing, .ref ya_heldOn, .ref ya_waits, .ref ya_tape, .ref ya_text, .int 0, .int 0, .int 0, .int (-1), .int 0, .ref ya_statements, .ref ya_taken, .ref ya_sort, .ref ya_first, .ref ya_second, .int 0, .int 0]))] H) (hD : va_D A [(xh, .inr (10, [.ref xa_bells, .ref xa_feasts, .ref xa_tape, .ref xa_reader, .ref xa_rules, .ref xa_monks, .ref xa_duties, .ref xa_gifts, .ref xa_figures, .int 0, .int 0, .int 0, .int 0, .int (-1), .int 0])), (xa_monks, .inr (5, [.ref xma_priests, .ref xma_barred, .ref xma_cameOn, .ref xma_absent, .ref xma_absentFrom, .ref xma_absentTo, .int 0, .int 0])), (yh, .inr (11, [.int 0, .int 0, .int 0, .int 0, .int 0, .int 0, .int 0, .int 0, .int 0, .ref ya_isPriest, .ref ya_bars, .ref ya_joined, .ref ya_turns, .ref ya_awayMonk, .ref ya_awayFrom, .ref ya_awayTo, .ref ya_feastDay, .ref ya_rank, .ref ya_isWeekly, .ref ya_isDouble, .ref ya_giftDay, .ref ya_giftFrom, .ref ya_owed, .ref ya_said, .ref ya_spared, .ref ya_leaveGift, .ref ya_leaveFrom, .ref ya_leaveTo, .ref ya_lateDay, .ref ya_lateOffice, .ref ya_lateBy, .ref ya_guests, .ref ya_who, .ref ya_used, .ref ya_lacks, .ref ya_candles, .ref ya_masses, .ref ya_owing, .ref ya_heldOn, .ref ya_waits, .ref ya_tape, .ref ya_text, .int 0, .int 0, .int 0, .int (-1), .int 0, .ref ya_statements, .ref ya_taken, .ref ya_sort, .ref ya_first, .ref ya_second, .int 0, .int 0]))]) (hS : va_S A s.heap H locs) (ls : Array Slot) (hl : lv_has ls 4 [(3, .int 0), (2, .ref yh), (1, .ref xh), (0, .ref b)]) : W p l e room_1 s m #[Value.ref b] below meth c H locs 90 16895 (lw_Z below #[Value.ref b] s) (F0 m 189 ls []) := by
  have hts : ∀ w ∈ wsL_law, w.before #[Value.ref b] s = true := fun w h => hts0 w (wsL_law_in w h)
  have S : CallFix p m c cL_law 4 s #[Value.ref b] wsL_law RL := ⟨hx, hb, hml, hown, hts⟩
  have kk0 : (0 : Int32).toInt = 0 := by decide
  have kk1 : (1 : Int32).toInt = 1 := by decide
  have kk2 : (2 : Int32).toInt = 2 := by decide
  have kk3 : (3 : Int32).toInt = 3 := by decide
  have kk4 : (4 : Int32).toInt = 4 := by decide
  have kk5 : (5 : Int32).toInt = 5 := by decide
  have kk6 : (6 : Int32).toInt = 6 := by decide
  have kk31 : (31 : Int32).toInt = 31 := by decide
  have kkm1 : (-1 : Int32).toInt = -1 := by decide
  refine lv_aload_n hx hb dL_law_189 rfl (lv_at hl 2 rfl) ?_
  refine lv_aload_n hx hb dL_law_190 rfl (lv_at hl 3 rfl) ?_
  refine lv_iload_n hx hb dL_law_191 rfl (lv_at hl 0 rfl) ?_
  refine lv_iconst (v := 1) hx hb dL_law_192 (by decide) ?_
  refine lv_iadd hx hb dL_law_193 ?_
  refine lv_topi (fun x_1 ex_1 => ?_)
  obtain rfl : x_1 = 1 := by rw [ex_1]; decide
  refine va_sld hx hb hX hbl hbA hS (t_in (by omega) (by omega)) dL_law_194 ?_
  refine lv_aload_n hx hb dL_law_195 rfl (lv_at hl 3 rfl) ?_
  refine lv_iload_n hx hb dL_law_196 rfl (lv_at hl 0 rfl) ?_
  refine lv_iconst (v := 2) hx hb dL_law_197 (by decide) ?_
  refine lv_iadd hx hb dL_law_198 ?_
  refine lv_topi (fun x_2 ex_2 => ?_)
  obtain rfl : x_2 = 2 := by rw [ex_2]; decide
  refine va_sld hx hb hX hbl hbA hS (t_in (by omega) (by omega)) dL_law_199 ?_
  refine lv_aload_n hx hb dL_law_200 rfl (lv_at hl 3 rfl) ?_
  refine lv_iload_n hx hb dL_law_201 rfl (lv_at hl 0 rfl) ?_
  refine lv_iconst (v := 3) hx hb dL_law_202 (by decide) ?_
  refine lv_iadd hx hb dL_law_203 ?_
  refine lv_topi (fun x_3 ex_3 => ?_)
  obtain rfl : x_3 = 3 := by rw [ex_3]; decide
  refine va_sld hx hb hX hbl hbA hS (t_in (by omega) (by omega)) dL_law_204 ?_
  have hPc := hP.sub (ws' := [(xh, .inr (10, [.ref xa_bells, .ref xa_feasts, .ref xa_tape, .ref xa_reader, .ref xa_rules, .ref xa_monks, .ref xa_duties, .ref xa_gifts, .ref xa_figures, .int 0, .int 0, .int 0, .int 0, .int (-1), .int 0])), (xa_monks, .inr (5, [.ref xma_priests, .ref xma_barred, .ref xma_cameOn, .ref xma_absent, .ref xma_absentFrom, .ref xma_absentTo, .int 0, .int 0]))]) [0, 1] rfl
  refine roV (As := [.int (xs (1 : Int32).toNatClampNeg), .int (xs (2 : Int32).toNatClampNeg), .int (xs (3 : Int32).toNatClampNeg)]) (rest := []) S (p_away  ) (cwV 3 hts gL_law_X11_away rfl rfl rfl (by decide +kernel) ⟨Nat.le_of_ble_eq_true rfl, Nat.le_of_ble_eq_true rfl⟩) hK hPc (va_recv hK.1 hPc (ci := 10) (q0 := 0) rfl rfl) rfl hl.1 rfl (Nat.le_of_ble_eq_true rfl) dL_law_205 ⟨Nat.le_of_ble_eq_true rfl, Nat.le_of_ble_eq_true rfl⟩ (fun r_a hw_a => ?_)
  have hw_a : r_a.toInt = -1 := hw_a
  refine lv_aload_n hx hb dL_law_208 rfl (lv_at hl 1 rfl) ?_
  refine lv_aload_n hx hb dL_law_209 rfl (lv_at hl 3 rfl) ?_
  refine lv_iload_n hx hb dL_law_210 rfl (lv_at hl 0 rfl) ?_
  refine lv_iconst (v := 1) hx hb dL_law_211 (by decide) ?_
  refine lv_iadd hx hb dL_law_212 ?_
  refine lv_topi (fun x_4 ex_4 => ?_)
  obtain rfl : x_4 = 1 := by rw [ex_4]; decide
  refine va_sld hx hb hX hbl hbA hS (t_in (by omega) (by omega)) dL_law_213 ?_
  refine lv_aload_n hx hb dL_law_214 rfl (lv_at hl 3 rfl) ?_
  refine lv_iload_n hx hb dL_law_215 rfl (lv_at hl 0 rfl) ?_
  refine lv_iconst (v := 2) hx hb dL_law_216 (by decide) ?_
  refine lv_iadd hx hb dL_law_217 ?_
  refine lv_topi (fun x_5 ex_5 => ?_)
  obtain rfl : x_5 = 2 := by rw [ex_5]; decide
  refine va_sld hx hb hX hbl hbA hS (t_in (by omega) (by omega)) dL_law_218 ?_
  refine lv_aload_n hx hb dL_law_219 rfl (lv_at hl 3 rfl) ?_
  refine lv_iload_n hx hb dL_law_220 rfl (lv_at hl 0 rfl) ?_
  refine lv_iconst (v := 3) hx hb dL_law_221 (by decide) ?_
  refine lv_iadd hx hb dL_law_222 ?_
  refine lv_topi (fun x_6 ex_6 => ?_)
  obtain rfl : x_6 = 3 := by rw [ex_6]; decide
  refine va_sld hx hb hX hbl hbA hS (t_in (by omega) (by omega)) dL_law_223 ?_
  have hPc := hP.sub (ws' := [(yh, .inr (11, [.int 0, .int 0, .int 0, .int 0, .int 0, .int 0, .int 0, .int 0, .int 0, .ref ya_isPriest, .ref ya_bars, .ref ya_joined, .ref ya_turns, .ref ya_awayMonk, .ref ya_awayFrom, .ref ya_awayTo, .ref ya_feastDay, .ref ya_rank, .ref ya_isWeekly, .ref ya_isDouble, .ref ya_giftDay, .ref ya_giftFrom, .ref ya_owed, .ref ya_said, .ref ya_spared, .ref ya_leaveGift, .ref ya_leaveFrom, .ref ya_leaveTo, .ref ya_lateDay, .ref ya_lateOffice, .ref ya_lateBy, .ref ya_guests, .ref ya_who, .ref ya_used, .ref ya_lacks, .ref ya_candles, .ref ya_masses, .ref ya_owing, .ref ya_heldOn, .ref ya_waits, .ref ya_tape, .ref ya_text, .int 0, .int 0, .int 0, .int (-1), .int 0, .ref ya_statements, .ref ya_taken, .ref ya_sort, .ref ya_first, .ref ya_second, .int 0, .int 0]))]) [2] rfl
  refine roV (As := [.int (xs (1 : Int32).toNatClampNeg), .int (xs (2 : Int32).toNatClampNeg), .int (xs (3 : Int32).toNatClampNeg)]) (rest := [.int r_a]) S (q_away  ) (cwV 3 hts gL_law_X12_away rfl rfl rfl (by decide +kernel) ⟨Nat.le_of_ble_eq_true rfl, Nat.le_of_ble_eq_true rfl⟩) hK hPc (va_recv hK.1 hPc (ci := 11) (q0 := 0) rfl rfl) rfl hl.1 rfl (Nat.le_of_ble_eq_true rfl) dL_law_224 ⟨Nat.le_of_ble_eq_true rfl, Nat.le_of_ble_eq_true rfl⟩ (fun r_b_ hw_b_ => ?_)
  have hw_b_ : r_b_.toInt = -1 := hw_b_
  refine lv_icmp_eq (tgt := 917) hx hb dL_law_227 (by decide) (fun cmp => ?_) (fun cmp => ?_)
  · have tcmp := t_eq cmp
    obtain ⟨x_8, ex_8⟩ : ∃ y : Int32, y = 0 + 6 := ⟨_, rfl⟩
    obtain rfl : x_8 = 6 := by rw [ex_8]; decide
    refine lv_iinc (v := 6) (lv' := [(3, .int 6), (2, .ref yh), (1, .ref xh), (0, .ref b)]) hx hb dL_law_917 hl (k := 0) rfl (by decide) (by decide) rfl (fun ls hl => ?_)
    refine lv_goto (tgt := 18) hx hb dL_law_920 (by decide) ?_
    refine lv_iload_n hx hb dL_law_18 rfl (lv_at hl 0 rfl) ?_
    refine lv_aload_n hx hb dL_law_19 rfl (lv_at hl 3 rfl) ?_
    refine va_slen hx hb hX hbl hbA hS dL_law_20 ?_
    refine lv_topi (fun x_9 ex_9 => ?_)
    have tx_9 : x_9.toInt = L := by rw [ex_9]; exact nI_toInt (by omega)
    refine lv_bipush (v := 6) hx hb dL_law_21 (by decide) ?_
    refine lv_isub hx hb dL_law_23 ?_
    refine lv_topi (fun x_10 ex_10 => ?_)
    first | have tx_10 := t_sub ex_10 (by omega) (by omega) | skip
    refine lv_icmp_gt (tgt := 923) hx hb dL_law_24 (by decide) (fun c_11 => ?_) (fun c_11 => ?_)
    · have tc_11 := t_lt c_11
      refine lv_iconst (v := 1) hx hb dL_law_923 (by decide) ?_
      refine va_forget (fun q hq => hAs _ (hS.2.2 q hq)) ?_
      refine W.widen (k := 600000) (n := 7302250) (Nat.le_of_ble_eq_true rfl) (Nat.le_of_ble_eq_true rfl) ?_
      exact lw_ret hx hb hr hlocks dL_law_924
    · have tc_11 := t_nlt c_11
      exfalso; omega
  · have tcmp := t_neq cmp
    exact absurd (Int32.toInt_inj.mp (by omega)) cmp

set_option maxHeartbeats 8000000 in
set_option maxRecDepth 100000 in
theorem law_case2 {p : Program} {e : Env} {s : State} {m : MethodId} {below : List Frame} {meth : Method} {c : Code} {l : Launch} {b L : Nat} {xs : Nat → Int32} {D : va_G} {cI cZ cB : ClassId} {A : Nat → Prop} {xh xa_bells xa_feasts xa_tape xa_reader xa_rules xa_monks xa_duties xa_gifts xa_figures xfa_falls xfa_ranks xfa_standsOn xfa_heldOn xfa_holder xfa_standing yh ya_isPriest ya_bars ya_joined ya_turns ya_awayMonk ya_awayFrom ya_awayTo ya_feastDay ya_rank ya_isWeekly ya_isDouble ya_giftDay ya_giftFrom ya_owed ya_said ya_spared ya_leaveGift ya_leaveFrom ya_leaveTo ya_lateDay ya_lateOffice ya_lateBy ya_guests ya_who ya_used ya_lacks ya_candles ya_masses ya_owing ya_heldOn ya_waits ya_tape ya_text ya_statements ya_taken ya_sort ya_first ya_second : Nat} {xff_falls xff_ranks xff_standsOn xff_heldOn xff_holder xff_standing yf_feastDay yf_rank : Nat → Int32}  (hx : p.tables.exec = Jvm.exec) (hb : c.code = cL_law) (hr : meth.sig.returnType = ret) (hml : c.maxLocals = 4) (hown : s.vm.findClass RL = some m.cls) (hts0 : ∀ w ∈ lw_tbl, w.before #[Value.ref b] s = true) (hX : va_X b L xs s s.heap) (hbl : b < s.heap.size) (hlocks : meth.locks = false) (hK : KK D cI cZ cB s) (hA : ∀ q : Nat, s.heap.size ≤ q → A q) (hAs : ∀ q : Nat, A q → s.heap.size ≤ q) (hbA : ¬ A b) (hL : L ≤ 6) (h6 : 6 ≤ L) {H : Heap} {locs : List Loc} (hP : va_P D vwCl [(xh, .inr (10, [.ref xa_bells, .ref xa_feasts, .ref xa_tape, .ref xa_reader, .ref xa_rules, .ref xa_monks, .ref xa_duties, .ref xa_gifts, .ref xa_figures, .int 0, .int 0, .int 0, .int 0, .int (-1), .int 0])), (xa_feasts, .inr (3, [.ref xfa_falls, .ref xfa_ranks, .ref xfa_standsOn, .ref xfa_heldOn, .ref xfa_holder, .ref xfa_standing, .int 0])), (xfa_falls, .inl (cI, 40, .inl xff_falls)), (xfa_ranks, .inl (cI, 40, .inl xff_ranks)), (xfa_standsOn, .inl (cI, 40, .inl xff_standsOn)), (xfa_heldOn, .inl (cI, 40, .inl xff_heldOn)), (xfa_holder, .inl (cI, 365, .inl xff_holder)), (xfa_standing, .inl (cI, 365, .inl xff_standing)), (yh, .inr (11, [.int 0, .int 0, .int 0, .int 0, .int 0, .int 0, .int 0, .int 0, .int 0, .ref ya_isPriest, .ref ya_bars, .ref ya_joined, .ref ya_turns, .ref ya_awayMonk, .ref ya_awayFrom, .ref ya_awayTo, .ref ya_feastDay, .ref ya_rank, .ref ya_isWeekly, .ref ya_isDouble, .ref ya_giftDay, .ref ya_giftFrom, .ref ya_owed, .ref ya_said, .ref ya_spared, .ref ya_leaveGift, .ref ya_leaveFrom, .ref ya_leaveTo, .ref ya_lateDay, .ref ya_lateOffice, .ref ya_lateBy, .ref ya_guests, .ref ya_who, .ref ya_used, .ref ya_lacks, .ref ya_candles, .ref ya_masses, .ref ya_owing, .ref ya_heldOn, .ref ya_waits, .ref ya_tape, .ref ya_text, .int 0, .int 0, .int 0, .int (-1), .int 0, .ref ya_statements, .ref ya_taken, .ref ya_sort, .ref ya_first, .ref ya_second, .int 0, .int 0])), (ya_feastDay, .inl (cI, 40, .inl yf_feastDay)), (ya_rank, .inl (cI, 40, .inl yf_rank))] H) (hD : va_D A [(xh, .inr (10, [.ref xa_bells, .ref xa_feasts, .ref xa_tape, .ref xa_reader, .ref xa_rules, .ref xa_monks, .ref xa_duties, .ref xa_gifts, .ref xa_figures, .int 0, .int 0, .int 0, .int 0, .int (-1), .int 0])), (xa_feasts, .inr (3, [.ref xfa_falls, .ref xfa_ranks, .ref xfa_standsOn, .ref xfa_heldOn, .ref xfa_holder, .ref xfa_standing, .int 0])), (xfa_falls, .inl (cI, 40, .inl xff_falls)), (xfa_ranks, .inl (cI, 40, .inl xff_ranks)), (xfa_standsOn, .inl (cI, 40, .inl xff_standsOn)), (xfa_heldOn, .inl (cI, 40, .inl xff_heldOn)), (xfa_holder, .inl (cI, 365, .inl xff_holder)), (xfa_standing, .inl (cI, 365, .inl xff_standing)), (yh, .inr (11, [.int 0, .int 0, .int 0, .int 0, .int 0, .int 0, .int 0, .int 0, .int 0, .ref ya_isPriest, .ref ya_bars, .ref ya_joined, .ref ya_turns, .ref ya_awayMonk, .ref ya_awayFrom, .ref ya_awayTo, .ref ya_feastDay, .ref ya_rank, .ref ya_isWeekly, .ref ya_isDouble, .ref ya_giftDay, .ref ya_giftFrom, .ref ya_owed, .ref ya_said, .ref ya_spared, .ref ya_leaveGift, .ref ya_leaveFrom, .ref ya_leaveTo, .ref ya_lateDay, .ref ya_lateOffice, .ref ya_lateBy, .ref ya_guests, .ref ya_who, .ref ya_used, .ref ya_lacks, .ref ya_candles, .ref ya_masses, .ref ya_owing, .ref ya_heldOn, .ref ya_waits, .ref ya_tape, .ref ya_text, .int 0, .int 0, .int 0, .int (-1), .int 0, .ref ya_statements, .ref ya_taken, .ref ya_sort, .ref ya_first, .ref ya_second, .int 0, .int 0])), (ya_feastDay, .inl (cI, 40, .inl yf_feastDay)), (ya_rank, .inl (cI, 40, .inl yf_rank))]) (hS : va_S A s.heap H locs) (ls : Array Slot) (hl : lv_has ls 4 [(3, .int 0), (2, .ref yh), (1, .ref xh), (0, .ref b)]) : W p l e room_1 s m #[Value.ref b] below meth c H locs 90 16895 (lw_Z below #[Value.ref b] s) (F0 m 232 ls []) := by
  have hts : ∀ w ∈ wsL_law, w.before #[Value.ref b] s = true := fun w h => hts0 w (wsL_law_in w h)
  have S : CallFix p m c cL_law 4 s #[Value.ref b] wsL_law RL := ⟨hx, hb, hml, hown, hts⟩
  have kk0 : (0 : Int32).toInt = 0 := by decide
  have kk1 : (1 : Int32).toInt = 1 := by decide
  have kk2 : (2 : Int32).toInt = 2 := by decide
  have kk3 : (3 : Int32).toInt = 3 := by decide
  have kk4 : (4 : Int32).toInt = 4 := by decide
  have kk5 : (5 : Int32).toInt = 5 := by decide
  have kk6 : (6 : Int32).toInt = 6 := by decide
  have kk31 : (31 : Int32).toInt = 31 := by decide
  have kkm1 : (-1 : Int32).toInt = -1 := by decide
  refine lv_aload_n hx hb dL_law_232 rfl (lv_at hl 2 rfl) ?_
  refine lv_aload_n hx hb dL_law_233 rfl (lv_at hl 3 rfl) ?_
  refine lv_iload_n hx hb dL_law_234 rfl (lv_at hl 0 rfl) ?_
  refine lv_iconst (v := 1) hx hb dL_law_235 (by decide) ?_
  refine lv_iadd hx hb dL_law_236 ?_
  refine lv_topi (fun x_1 ex_1 => ?_)
  obtain rfl : x_1 = 1 := by rw [ex_1]; decide
  refine va_sld hx hb hX hbl hbA hS (t_in (by omega) (by omega)) dL_law_237 ?_
  refine lv_aload_n hx hb dL_law_238 rfl (lv_at hl 3 rfl) ?_
  refine lv_iload_n hx hb dL_law_239 rfl (lv_at hl 0 rfl) ?_
  refine lv_iconst (v := 2) hx hb dL_law_240 (by decide) ?_
  refine lv_iadd hx hb dL_law_241 ?_
  refine lv_topi (fun x_2 ex_2 => ?_)
  obtain rfl : x_2 = 2 := by rw [ex_2]; decide
  refine va_sld hx hb hX hbl hbA hS (t_in (by omega) (by omega)) dL_law_242 ?_
  have hPc := hP.sub (ws' := [(xh, .inr (10, [.ref xa_bells, .ref xa_feasts, .ref xa_tape, .ref xa_reader, .ref xa_rules, .ref xa_monks, .ref xa_duties, .ref xa_gifts, .ref xa_figures, .int 0, .int 0, .int 0, .int 0, .int (-1), .int 0])), (xa_feasts, .inr (3, [.ref xfa_falls, .ref xfa_ranks, .ref xfa_standsOn, .ref xfa_heldOn, .ref xfa_holder, .ref xfa_standing, .int 0])), (xfa_falls, .inl (cI, 40, .inl xff_falls)), (xfa_ranks, .inl (cI, 40, .inl xff_ranks)), (xfa_standsOn, .inl (cI, 40, .inl xff_standsOn)), (xfa_heldOn, .inl (cI, 40, .inl xff_heldOn)), (xfa_holder, .inl (cI, 365, .inl xff_holder)), (xfa_standing, .inl (cI, 365, .inl xff_standing))]) [0, 1, 2, 3, 4, 5, 6, 7] rfl
  refine rwV (As := [.int (xs (1 : Int32).toNatClampNeg), .int (xs (2 : Int32).toNatClampNeg)]) (rest := []) (wc := [(xh, .inr (10, [.ref xa_bells, .ref xa_feasts, .ref xa_tape, .ref xa_reader, .ref xa_rules, .ref xa_monks, .ref xa_duties, .ref xa_gifts, .ref xa_figures, .int 0, .int 0, .int 0, .int 0, .int (-1), .int 0])), (xa_feasts, .inr (3, [.ref xfa_falls, .ref xfa_ranks, .ref xfa_standsOn, .ref xfa_heldOn, .ref xfa_holder, .ref xfa_standing, .int 0])), (xfa_falls, .inl (cI, 40, .inl xff_falls)), (xfa_ranks, .inl (cI, 40, .inl xff_ranks)), (xfa_standsOn, .inl (cI, 40, .inl xff_standsOn)), (xfa_heldOn, .inl (cI, 40, .inl xff_heldOn)), (xfa_holder, .inl (cI, 365, .inl xff_holder)), (xfa_standing, .inl (cI, 365, .inl xff_standing))]) (wr := [(yh, .inr (11, [.int 0, .int 0, .int 0, .int 0, .int 0, .int 0, .int 0, .int 0, .int 0, .ref ya_isPriest, .ref ya_bars, .ref ya_joined, .ref ya_turns, .ref ya_awayMonk, .ref ya_awayFrom, .ref ya_awayTo, .ref ya_feastDay, .ref ya_rank, .ref ya_isWeekly, .ref ya_isDouble, .ref ya_giftDay, .ref ya_giftFrom, .ref ya_owed, .ref ya_said, .ref ya_spared, .ref ya_leaveGift, .ref ya_leaveFrom, .ref ya_leaveTo, .ref ya_lateDay, .ref ya_lateOffice, .ref ya_lateBy, .ref ya_guests, .ref ya_who, .ref ya_used, .ref ya_lacks, .ref ya_candles, .ref ya_masses, .ref ya_owing, .ref ya_heldOn, .ref ya_waits, .ref ya_tape, .ref ya_text, .int 0, .int 0, .int 0, .int (-1), .int 0, .ref ya_statements, .ref ya_taken, .ref ya_sort, .ref ya_first, .ref ya_second, .int 0, .int 0])), (ya_feastDay, .inl (cI, 40, .inl yf_feastDay)), (ya_rank, .inl (cI, 40, .inl yf_rank))]) S (p_feast  ) (cwV 2 hts gL_law_X11_feast rfl rfl rfl (by decide +kernel) ⟨Nat.le_of_ble_eq_true rfl, Nat.le_of_ble_eq_true rfl⟩) hK hP hD hS hA [0, 1, 2, 3, 4, 5, 6, 7] [8, 9, 10] rfl rfl (by decide) (by decide) (by decide) (va_recv hK.1 hPc (ci := 10) (q0 := 0) rfl rfl) rfl hl.1 rfl (Nat.le_of_ble_eq_true rfl) dL_law_243 ⟨Nat.le_of_ble_eq_true rfl, Nat.le_of_ble_eq_true rfl⟩ (fun r_a u_a H locs hw_a hP hD hS => ?_)
  obtain ⟨n1_a, f_falls_a, f_ranks_a, f_standsOn_a, f_heldOn_a, f_holder_a, f_standing_a⟩ := u_a
  have hw_a : ((0 ≤ (xs (1 : Int32).toNatClampNeg).toInt ∧ (xs (1 : Int32).toNatClampNeg).toInt ≤ 364 ∧ 1 ≤ (xs (2 : Int32).toNatClampNeg).toInt ∧ (xs (2 : Int32).toNatClampNeg).toInt ≤ 4) → r_a.toInt = 0) ∧ (¬ (0 ≤ (xs (1 : Int32).toNatClampNeg).toInt ∧ (xs (1 : Int32).toNatClampNeg).toInt ≤ 364 ∧ 1 ≤ (xs (2 : Int32).toNatClampNeg).toInt ∧ (xs (2 : Int32).toNatClampNeg).toInt ≤ 4) → r_a.toInt = -1) := hw_a
  have hP : va_P D vwCl [(yh, .inr (11, [.int 0, .int 0, .int 0, .int 0, .int 0, .int 0, .int 0, .int 0, .int 0, .ref ya_isPriest, .ref ya_bars, .ref ya_joined, .ref ya_turns, .ref ya_awayMonk, .ref ya_awayFrom, .ref ya_awayTo, .ref ya_feastDay, .ref ya_rank, .ref ya_isWeekly, .ref ya_isDouble, .ref ya_giftDay, .ref ya_giftFrom, .ref ya_owed, .ref ya_said, .ref ya_spared, .ref ya_leaveGift, .ref ya_leaveFrom, .ref ya_leaveTo, .ref ya_lateDay, .ref ya_lateOffice, .ref ya_lateBy, .ref ya_guests, .ref ya_who, .ref ya_used, .ref ya_lacks, .ref ya_candles, .ref ya_masses, .ref ya_owing, .ref ya_heldOn, .ref ya_waits, .ref ya_tape, .ref ya_text, .int 0, .int 0, .int 0, .int (-1), .int 0, .ref ya_statements, .ref ya_taken, .ref ya_sort, .ref ya_first, .ref ya_second, .int 0, .int 0])), (ya_feastDay, .inl (cI, 40, .inl yf_feastDay)), (ya_rank, .inl (cI, 40, .inl yf_rank)), (xh, .inr (10, [.ref xa_bells, .ref xa_feasts, .ref xa_tape, .ref xa_reader, .ref xa_rules, .ref xa_monks, .ref xa_duties, .ref xa_gifts, .ref xa_figures, .int 0, .int 0, .int 0, .int 0, .int (-1), .int 0])), (xa_feasts, .inr (3, [.ref xfa_falls, .ref xfa_ranks, .ref xfa_standsOn, .ref xfa_heldOn, .ref xfa_holder, .ref xfa_standing, .int n1_a])), (xfa_falls, .inl (cI, 40, .inl f_falls_a)), (xfa_ranks, .inl (cI, 40, .inl f_ranks_a)), (xfa_standsOn, .inl (cI, 40, .inl f_standsOn_a)), (xfa_heldOn, .inl (cI, 40, .inl f_heldOn_a)), (xfa_holder, .inl (cI, 365, .inl f_holder_a)), (xfa_standing, .inl (cI, 365, .inl f_standing_a))] H := hP
  have hD : va_D A [(yh, .inr (11, [.int 0, .int 0, .int 0, .int 0, .int 0, .int 0, .int 0, .int 0, .int 0, .ref ya_isPriest, .ref ya_bars, .ref ya_joined, .ref ya_turns, .ref ya_awayMonk, .ref ya_awayFrom, .ref ya_awayTo, .ref ya_feastDay, .ref ya_rank, .ref ya_isWeekly, .ref ya_isDouble, .ref ya_giftDay, .ref ya_giftFrom, .ref ya_owed, .ref ya_said, .ref ya_spared, .ref ya_leaveGift, .ref ya_leaveFrom, .ref ya_leaveTo, .ref ya_lateDay, .ref ya_lateOffice, .ref ya_lateBy, .ref ya_guests, .ref ya_who, .ref ya_used, .ref ya_lacks, .ref ya_candles, .ref ya_masses, .ref ya_owing, .ref ya_heldOn, .ref ya_waits, .ref ya_tape, .ref ya_text, .int 0, .int 0, .int 0, .int (-1), .int 0, .ref ya_statements, .ref ya_taken, .ref ya_sort, .ref ya_first, .ref ya_second, .int 0, .int 0])), (ya_feastDay, .inl (cI, 40, .inl yf_feastDay)), (ya_rank, .inl (cI, 40, .inl yf_rank)), (xh, .inr (10, [.ref xa_bells, .ref xa_feasts, .ref xa_tape, .ref xa_reader, .ref xa_rules, .ref xa_monks, .ref xa_duties, .ref xa_gifts, .ref xa_figures, .int 0, .int 0, .int 0, .int 0, .int (-1), .int 0])), (xa_feasts, .inr (3, [.ref xfa_falls, .ref xfa_ranks, .ref xfa_standsOn, .ref xfa_heldOn, .ref xfa_holder, .ref xfa_standing, .int n1_a])), (xfa_falls, .inl (cI, 40, .inl f_falls_a)), (xfa_ranks, .inl (cI, 40, .inl f_ranks_a)), (xfa_standsOn, .inl (cI, 40, .inl f_standsOn_a)), (xfa_heldOn, .inl (cI, 40, .inl f_heldOn_a)), (xfa_holder, .inl (cI, 365, .inl f_holder_a)), (xfa_standing, .inl (cI, 365, .inl f_standing_a))] := hD
  refine lv_aload_n hx hb dL_law_246 rfl (lv_at hl 1 rfl) ?_
  refine lv_aload_n hx hb dL_law_247 rfl (lv_at hl 3 rfl) ?_
  refine lv_iload_n hx hb dL_law_248 rfl (lv_at hl 0 rfl) ?_
  refine lv_iconst (v := 1) hx hb dL_law_249 (by decide) ?_
  refine lv_iadd hx hb dL_law_250 ?_
  refine lv_topi (fun x_3 ex_3 => ?_)
  obtain rfl : x_3 = 1 := by rw [ex_3]; decide
  refine va_sld hx hb hX hbl hbA hS (t_in (by omega) (by omega)) dL_law_251 ?_
  refine lv_aload_n hx hb dL_law_252 rfl (lv_at hl 3 rfl) ?_
  refine lv_iload_n hx hb dL_law_253 rfl (lv_at hl 0 rfl) ?_
  refine lv_iconst (v := 2) hx hb dL_law_254 (by decide) ?_
  refine lv_iadd hx hb dL_law_255 ?_
  refine lv_topi (fun x_4 ex_4 => ?_)
  obtain rfl : x_4 = 2 := by rw [ex_4]; decide
  refine va_sld hx hb hX hbl hbA hS (t_in (by omega) (by omega)) dL_law_256 ?_
  have hPc := hP.sub (ws' := [(yh, .inr (11, [.int 0, .int 0, .int 0, .int 0, .int 0, .int 0, .int 0, .int 0, .int 0, .ref ya_isPriest, .ref ya_bars, .ref ya_joined, .ref ya_turns, .ref ya_awayMonk, .ref ya_awayFrom, .ref ya_awayTo, .ref ya_feastDay, .ref ya_rank, .ref ya_isWeekly, .ref ya_isDouble, .ref ya_giftDay, .ref ya_giftFrom, .ref ya_owed, .ref ya_said, .ref ya_spared, .ref ya_leaveGift, .ref ya_leaveFrom, .ref ya_leaveTo, .ref ya_lateDay, .ref ya_lateOffice, .ref ya_lateBy, .ref ya_guests, .ref ya_who, .ref ya_used, .ref ya_lacks, .ref ya_candles, .ref ya_masses, .ref ya_owing, .ref ya_heldOn, .ref ya_waits, .ref ya_tape, .ref ya_text, .int 0, .int 0, .int 0, .int (-1), .int 0, .ref ya_statements, .ref ya_taken, .ref ya_sort, .ref ya_first, .ref ya_second, .int 0, .int 0])), (ya_feastDay, .inl (cI, 40, .inl yf_feastDay)), (ya_rank, .inl (cI, 40, .inl yf_rank))]) [0, 1, 2] rfl
  refine rwV (As := [.int (xs (1 : Int32).toNatClampNeg), .int (xs (2 : Int32).toNatClampNeg)]) (rest := [.int r_a]) (wc := [(yh, .inr (11, [.int 0, .int 0, .int 0, .int 0, .int 0, .int 0, .int 0, .int 0, .int 0, .ref ya_isPriest, .ref ya_bars, .ref ya_joined, .ref ya_turns, .ref ya_awayMonk, .ref ya_awayFrom, .ref ya_awayTo, .ref ya_feastDay, .ref ya_rank, .ref ya_isWeekly, .ref ya_isDouble, .ref ya_giftDay, .ref ya_giftFrom, .ref ya_owed, .ref ya_said, .ref ya_spared, .ref ya_leaveGift, .ref ya_leaveFrom, .ref ya_leaveTo, .ref ya_lateDay, .ref ya_lateOffice, .ref ya_lateBy, .ref ya_guests, .ref ya_who, .ref ya_used, .ref ya_lacks, .ref ya_candles, .ref ya_masses, .ref ya_owing, .ref ya_heldOn, .ref ya_waits, .ref ya_tape, .ref ya_text, .int 0, .int 0, .int 0, .int (-1), .int 0, .ref ya_statements, .ref ya_taken, .ref ya_sort, .ref ya_first, .ref ya_second, .int 0, .int 0])), (ya_feastDay, .inl (cI, 40, .inl yf_feastDay)), (ya_rank, .inl (cI, 40, .inl yf_rank))]) (wr := [(xh, .inr (10, [.ref xa_bells, .ref xa_feasts, .ref xa_tape, .ref xa_reader, .ref xa_rules, .ref xa_monks, .ref xa_duties, .ref xa_gifts, .ref xa_figures, .int 0, .int 0, .int 0, .int 0, .int (-1), .int 0])), (xa_feasts, .inr (3, [.ref xfa_falls, .ref xfa_ranks, .ref xfa_standsOn, .ref xfa_heldOn, .ref xfa_holder, .ref xfa_standing, .int n1_a])), (xfa_falls, .inl (cI, 40, .inl f_falls_a)), (xfa_ranks, .inl (cI, 40, .inl f_ranks_a)), (xfa_standsOn, .inl (cI, 40, .inl f_standsOn_a)), (xfa_heldOn, .inl (cI, 40, .inl f_heldOn_a)), (xfa_holder, .inl (cI, 365, .inl f_holder_a)), (xfa_standing, .inl (cI, 365, .inl f_standing_a))]) S (q_feast  ) (cwV 2 hts gL_law_X12_feast rfl rfl rfl (by decide +kernel) ⟨Nat.le_of_ble_eq_true rfl, Nat.le_of_ble_eq_true rfl⟩) hK hP hD hS hA [0, 1, 2] [3, 4, 5, 6, 7, 8, 9, 10] rfl rfl (by decide) (by decide) (by decide) (va_recv hK.1 hPc (ci := 11) (q0 := 0) rfl rfl) rfl hl.1 rfl (Nat.le_of_ble_eq_true rfl) dL_law_257 ⟨Nat.le_of_ble_eq_true rfl, Nat.le_of_ble_eq_true rfl⟩ (fun r_b_ u_b_ H locs hw_b_ hP hD hS => ?_)
  obtain ⟨n1_b_, f1_b_, f2_b_⟩ := u_b_
  have hw_b_ : ((0 ≤ (xs (1 : Int32).toNatClampNeg).toInt ∧ (xs (1 : Int32).toNatClampNeg).toInt ≤ 364 ∧ 1 ≤ (xs (2 : Int32).toNatClampNeg).toInt ∧ (xs (2 : Int32).toNatClampNeg).toInt ≤ 4) → r_b_.toInt = 0) ∧ (¬ (0 ≤ (xs (1 : Int32).toNatClampNeg).toInt ∧ (xs (1 : Int32).toNatClampNeg).toInt ≤ 364 ∧ 1 ≤ (xs (2 : Int32).toNatClampNeg).toInt ∧ (xs (2 : Int32).toNatClampNeg).toInt ≤ 4) → r_b_.toInt = -1) := hw_b_
  have hP : va_P D vwCl [(xh, .inr (10, [.ref xa_bells, .ref xa_feasts, .ref xa_tape, .ref xa_reader, .ref xa_rules, .ref xa_monks, .ref xa_duties, .ref xa_gifts, .ref xa_figures, .int 0, .int 0, .int 0, .int 0, .int (-1), .int 0])), (xa_feasts, .inr (3, [.ref xfa_falls, .ref xfa_ranks, .ref xfa_standsOn, .ref xfa_heldOn, .ref xfa_holder, .ref xfa_standing, .int n1_a])), (xfa_falls, .inl (cI, 40, .inl f_falls_a)), (xfa_ranks, .inl (cI, 40, .inl f_ranks_a)), (xfa_standsOn, .inl (cI, 40, .inl f_standsOn_a)), (xfa_heldOn, .inl (cI, 40, .inl f_heldOn_a)), (xfa_holder, .inl (cI, 365, .inl f_holder_a)), (xfa_standing, .inl (cI, 365, .inl f_standing_a)), (yh, .inr (11, [.int 0, .int 0, .int 0, .int n1_b_, .int 0, .int 0, .int 0, .int 0, .int 0, .ref ya_isPriest, .ref ya_bars, .ref ya_joined, .ref ya_turns, .ref ya_awayMonk, .ref ya_awayFrom, .ref ya_awayTo, .ref ya_feastDay, .ref ya_rank, .ref ya_isWeekly, .ref ya_isDouble, .ref ya_giftDay, .ref ya_giftFrom, .ref ya_owed, .ref ya_said, .ref ya_spared, .ref ya_leaveGift, .ref ya_leaveFrom, .ref ya_leaveTo, .ref ya_lateDay, .ref ya_lateOffice, .ref ya_lateBy, .ref ya_guests, .ref ya_who, .ref ya_used, .ref ya_lacks, .ref ya_candles, .ref ya_masses, .ref ya_owing, .ref ya_heldOn, .ref ya_waits, .ref ya_tape, .ref ya_text, .int 0, .int 0, .int 0, .int (-1), .int 0, .ref ya_statements, .ref ya_taken, .ref ya_sort, .ref ya_first, .ref ya_second, .int 0, .int 0])), (ya_feastDay, .inl (cI, 40, .inl f1_b_)), (ya_rank, .inl (cI, 40, .inl f2_b_))] H := hP
  have hD : va_D A [(xh, .inr (10, [.ref xa_bells, .ref xa_feasts, .ref xa_tape, .ref xa_reader, .ref xa_rules, .ref xa_monks, .ref xa_duties, .ref xa_gifts, .ref xa_figures, .int 0, .int 0, .int 0, .int 0, .int (-1), .int 0])), (xa_feasts, .inr (3, [.ref xfa_falls, .ref xfa_ranks, .ref xfa_standsOn, .ref xfa_heldOn, .ref xfa_holder, .ref xfa_standing, .int n1_a])), (xfa_falls, .inl (cI, 40, .inl f_falls_a)), (xfa_ranks, .inl (cI, 40, .inl f_ranks_a)), (xfa_standsOn, .inl (cI, 40, .inl f_standsOn_a)), (xfa_heldOn, .inl (cI, 40, .inl f_heldOn_a)), (xfa_holder, .inl (cI, 365, .inl f_holder_a)), (xfa_standing, .inl (cI, 365, .inl f_standing_a)), (yh, .inr (11, [.int 0, .int 0, .int 0, .int n1_b_, .int 0, .int 0, .int 0, .int 0, .int 0, .ref ya_isPriest, .ref ya_bars, .ref ya_joined, .ref ya_turns, .ref ya_awayMonk, .ref ya_awayFrom, .ref ya_awayTo, .ref ya_feastDay, .ref ya_rank, .ref ya_isWeekly, .ref ya_isDouble, .ref ya_giftDay, .ref ya_giftFrom, .ref ya_owed, .ref ya_said, .ref ya_spared, .ref ya_leaveGift, .ref ya_leaveFrom, .ref ya_leaveTo, .ref ya_lateDay, .ref ya_lateOffice, .ref ya_lateBy, .ref ya_guests, .ref ya_who, .ref ya_used, .ref ya_lacks, .ref ya_candles, .ref ya_masses, .ref ya_owing, .ref ya_heldOn, .ref ya_waits, .ref ya_tape, .ref ya_text, .int 0, .int 0, .int 0, .int (-1), .int 0, .ref ya_statements, .ref ya_taken, .ref ya_sort, .ref ya_first, .ref ya_second, .int 0, .int 0])), (ya_feastDay, .inl (cI, 40, .inl f1_b_)), (ya_rank, .inl (cI, 40, .inl f2_b_))] := hD
  refine lv_icmp_eq (tgt := 917) hx hb dL_law_260 (by decide) (fun cmp => ?_) (fun cmp => ?_)
  · have tcmp := t_eq cmp
    obtain ⟨x_6, ex_6⟩ : ∃ y : Int32, y = 0 + 6 := ⟨_, rfl⟩
    obtain rfl : x_6 = 6 := by rw [ex_6]; decide
    refine lv_iinc (v := 6) (lv' := [(3, .int 6), (2, .ref yh), (1, .ref xh), (0, .ref b)]) hx hb dL_law_917 hl (k := 0) rfl (by decide) (by decide) rfl (fun ls hl => ?_)
    refine lv_goto (tgt := 18) hx hb dL_law_920 (by decide) ?_
    refine lv_iload_n hx hb dL_law_18 rfl (lv_at hl 0 rfl) ?_
    refine lv_aload_n hx hb dL_law_19 rfl (lv_at hl 3 rfl) ?_
    refine va_slen hx hb hX hbl hbA hS dL_law_20 ?_
    refine lv_topi (fun x_7 ex_7 => ?_)
    have tx_7 : x_7.toInt = L := by rw [ex_7]; exact nI_toInt (by omega)
    refine lv_bipush (v := 6) hx hb dL_law_21 (by decide) ?_
    refine lv_isub hx hb dL_law_23 ?_
    refine lv_topi (fun x_8 ex_8 => ?_)
    first | have tx_8 := t_sub ex_8 (by omega) (by omega) | skip
    refine lv_icmp_gt (tgt := 923) hx hb dL_law_24 (by decide) (fun c_9 => ?_) (fun c_9 => ?_)
    · have tc_9 := t_lt c_9
      refine lv_iconst (v := 1) hx hb dL_law_923 (by decide) ?_
      refine va_forget (fun q hq => hAs _ (hS.2.2 q hq)) ?_
      refine W.widen (k := 600000) (n := 7302250) (Nat.le_of_ble_eq_true rfl) (Nat.le_of_ble_eq_true rfl) ?_
      exact lw_ret hx hb hr hlocks dL_law_924
    · have tc_9 := t_nlt c_9
      exfalso; omega
  · have tcmp := t_neq cmp
    exact absurd (Int32.toInt_inj.mp (by omega)) cmp

set_option maxHeartbeats 8000000 in
set_option maxRecDepth 100000 in
theorem law_case3 {p : Program} {e : Env} {s : State} {m : MethodId} {below : List Frame} {meth : Method} {c : Code} {l : Launch} {b L : Nat} {xs : Nat → Int32} {D : va_G} {cI cZ cB : ClassId} {A : Nat → Prop} {xh xa_bells xa_feasts xa_tape xa_reader xa_rules xa_monks xa_duties xa_gifts xa_figures xfa_falls xfa_ranks xfa_standsOn xfa_heldOn xfa_holder xfa_standing yh ya_isPriest ya_bars ya_joined ya_turns ya_awayMonk ya_awayFrom ya_awayTo ya_feastDay ya_rank ya_isWeekly ya_isDouble ya_giftDay ya_giftFrom ya_owed ya_said ya_spared ya_leaveGift ya_leaveFrom ya_leaveTo ya_lateDay ya_lateOffice ya_lateBy ya_guests ya_who ya_used ya_lacks ya_candles ya_masses ya_owing ya_heldOn ya_waits ya_tape ya_text ya_statements ya_taken ya_sort ya_first ya_second : Nat} {xff_holder yf_heldOn : Nat → Int32}  (hx : p.tables.exec = Jvm.exec) (hb : c.code = cL_law) (hr : meth.sig.returnType = ret) (hml : c.maxLocals = 4) (hown : s.vm.findClass RL = some m.cls) (hts0 : ∀ w ∈ lw_tbl, w.before #[Value.ref b] s = true) (hX : va_X b L xs s s.heap) (hbl : b < s.heap.size) (hlocks : meth.locks = false) (hK : KK D cI cZ cB s) (hA : ∀ q : Nat, s.heap.size ≤ q → A q) (hAs : ∀ q : Nat, A q → s.heap.size ≤ q) (hbA : ¬ A b) (hL : L ≤ 6) (h6 : 6 ≤ L) {H : Heap} {locs : List Loc} (hP : va_P D vwCl [(xh, .inr (10, [.ref xa_bells, .ref xa_feasts, .ref xa_tape, .ref xa_reader, .ref xa_rules, .ref xa_monks, .ref xa_duties, .ref xa_gifts, .ref xa_figures, .int 0, .int 0, .int 0, .int 0, .int (-1), .int 0])), (xa_feasts, .inr (3, [.ref xfa_falls, .ref xfa_ranks, .ref xfa_standsOn, .ref xfa_heldOn, .ref xfa_holder, .ref xfa_standing, .int 0])), (xfa_holder, .inl (cI, 365, .inl xff_holder)), (yh, .inr (11, [.int 0, .int 0, .int 0, .int 0, .int 0, .int 0, .int 0, .int 0, .int 0, .ref ya_isPriest, .ref ya_bars, .ref ya_joined, .ref ya_turns, .ref ya_awayMonk, .ref ya_awayFrom, .ref ya_awayTo, .ref ya_feastDay, .ref ya_rank, .ref ya_isWeekly, .ref ya_isDouble, .ref ya_giftDay, .ref ya_giftFrom, .ref ya_owed, .ref ya_said, .ref ya_spared, .ref ya_leaveGift, .ref ya_leaveFrom, .ref ya_leaveTo, .ref ya_lateDay, .ref ya_lateOffice, .ref ya_lateBy, .ref ya_guests, .ref ya_who, .ref ya_used, .ref ya_lacks, .ref ya_candles, .ref ya_masses, .ref ya_owing, .ref ya_heldOn, .ref ya_waits, .ref ya_tape, .ref ya_text, .int 0, .int 0, .int 0, .int (-1), .int 0, .ref ya_statements, .ref ya_taken, .ref ya_sort, .ref ya_first, .ref ya_second, .int 0, .int 0])), (ya_heldOn, .inl (cI, 365, .inl yf_heldOn))] H) (hD : va_D A [(xh, .inr (10, [.ref xa_bells, .ref xa_feasts, .ref xa_tape, .ref xa_reader, .ref xa_rules, .ref xa_monks, .ref xa_duties, .ref xa_gifts, .ref xa_figures, .int 0, .int 0, .int 0, .int 0, .int (-1), .int 0])), (xa_feasts, .inr (3, [.ref xfa_falls, .ref xfa_ranks, .ref xfa_standsOn, .ref xfa_heldOn, .ref xfa_holder, .ref xfa_standing, .int 0])), (xfa_holder, .inl (cI, 365, .inl xff_holder)), (yh, .inr (11, [.int 0, .int 0, .int 0, .int 0, .int 0, .int 0, .int 0, .int 0, .int 0, .ref ya_isPriest, .ref ya_bars, .ref ya_joined, .ref ya_turns, .ref ya_awayMonk, .ref ya_awayFrom, .ref ya_awayTo, .ref ya_feastDay, .ref ya_rank, .ref ya_isWeekly, .ref ya_isDouble, .ref ya_giftDay, .ref ya_giftFrom, .ref ya_owed, .ref ya_said, .ref ya_spared, .ref ya_leaveGift, .ref ya_leaveFrom, .ref ya_leaveTo, .ref ya_lateDay, .ref ya_lateOffice, .ref ya_lateBy, .ref ya_guests, .ref ya_who, .ref ya_used, .ref ya_lacks, .ref ya_candles, .ref ya_masses, .ref ya_owing, .ref ya_heldOn, .ref ya_waits, .ref ya_tape, .ref ya_text, .int 0, .int 0, .int 0, .int (-1), .int 0, .ref ya_statements, .ref ya_taken, .ref ya_sort, .ref ya_first, .ref ya_second, .int 0, .int 0])), (ya_heldOn, .inl (cI, 365, .inl yf_heldOn))]) (hS : va_S A s.heap H locs) (ls : Array Slot) (hl : lv_has ls 4 [(3, .int 0), (2, .ref yh), (1, .ref xh), (0, .ref b)]) : W p l e room_1 s m #[Value.ref b] below meth c H locs 90 16895 (lw_Z below #[Value.ref b] s) (F0 m 265 ls []) := by
  have hts : ∀ w ∈ wsL_law, w.before #[Value.ref b] s = true := fun w h => hts0 w (wsL_law_in w h)
  have S : CallFix p m c cL_law 4 s #[Value.ref b] wsL_law RL := ⟨hx, hb, hml, hown, hts⟩
  have kk0 : (0 : Int32).toInt = 0 := by decide
  have kk1 : (1 : Int32).toInt = 1 := by decide
  have kk2 : (2 : Int32).toInt = 2 := by decide
  have kk3 : (3 : Int32).toInt = 3 := by decide
  have kk4 : (4 : Int32).toInt = 4 := by decide
  have kk5 : (5 : Int32).toInt = 5 := by decide
  have kk6 : (6 : Int32).toInt = 6 := by decide
  have kk31 : (31 : Int32).toInt = 31 := by decide
  have kkm1 : (-1 : Int32).toInt = -1 := by decide
  refine lv_aload_n hx hb dL_law_265 rfl (lv_at hl 2 rfl) ?_
  refine lv_aload_n hx hb dL_law_266 rfl (lv_at hl 3 rfl) ?_
  refine lv_iload_n hx hb dL_law_267 rfl (lv_at hl 0 rfl) ?_
  refine lv_iconst (v := 1) hx hb dL_law_268 (by decide) ?_
  refine lv_iadd hx hb dL_law_269 ?_
  refine lv_topi (fun x_1 ex_1 => ?_)
  obtain rfl : x_1 = 1 := by rw [ex_1]; decide
  refine va_sld hx hb hX hbl hbA hS (t_in (by omega) (by omega)) dL_law_270 ?_
  have hPc := hP.sub (ws' := [(xh, .inr (10, [.ref xa_bells, .ref xa_feasts, .ref xa_tape, .ref xa_reader, .ref xa_rules, .ref xa_monks, .ref xa_duties, .ref xa_gifts, .ref xa_figures, .int 0, .int 0, .int 0, .int 0, .int (-1), .int 0])), (xa_feasts, .inr (3, [.ref xfa_falls, .ref xfa_ranks, .ref xfa_standsOn, .ref xfa_heldOn, .ref xfa_holder, .ref xfa_standing, .int 0])), (xfa_holder, .inl (cI, 365, .inl xff_holder))]) [0, 1, 2] rfl
  refine roV (As := [.int (xs (1 : Int32).toNatClampNeg)]) (rest := []) S (p_held  ) (cwV 1 hts gL_law_X11_held rfl rfl rfl (by decide +kernel) ⟨Nat.le_of_ble_eq_true rfl, Nat.le_of_ble_eq_true rfl⟩) hK hPc (va_recv hK.1 hPc (ci := 10) (q0 := 0) rfl rfl) rfl hl.1 rfl (Nat.le_of_ble_eq_true rfl) dL_law_271 ⟨Nat.le_of_ble_eq_true rfl, Nat.le_of_ble_eq_true rfl⟩ (fun r_a hw_a => ?_)
  have hw_a : r_a.toInt = -1 := hw_a
  refine lv_aload_n hx hb dL_law_274 rfl (lv_at hl 1 rfl) ?_
  refine lv_aload_n hx hb dL_law_275 rfl (lv_at hl 3 rfl) ?_
  refine lv_iload_n hx hb dL_law_276 rfl (lv_at hl 0 rfl) ?_
  refine lv_iconst (v := 1) hx hb dL_law_277 (by decide) ?_
  refine lv_iadd hx hb dL_law_278 ?_
  refine lv_topi (fun x_2 ex_2 => ?_)
  obtain rfl : x_2 = 1 := by rw [ex_2]; decide
  refine va_sld hx hb hX hbl hbA hS (t_in (by omega) (by omega)) dL_law_279 ?_
  have hPc := hP.sub (ws' := [(yh, .inr (11, [.int 0, .int 0, .int 0, .int 0, .int 0, .int 0, .int 0, .int 0, .int 0, .ref ya_isPriest, .ref ya_bars, .ref ya_joined, .ref ya_turns, .ref ya_awayMonk, .ref ya_awayFrom, .ref ya_awayTo, .ref ya_feastDay, .ref ya_rank, .ref ya_isWeekly, .ref ya_isDouble, .ref ya_giftDay, .ref ya_giftFrom, .ref ya_owed, .ref ya_said, .ref ya_spared, .ref ya_leaveGift, .ref ya_leaveFrom, .ref ya_leaveTo, .ref ya_lateDay, .ref ya_lateOffice, .ref ya_lateBy, .ref ya_guests, .ref ya_who, .ref ya_used, .ref ya_lacks, .ref ya_candles, .ref ya_masses, .ref ya_owing, .ref ya_heldOn, .ref ya_waits, .ref ya_tape, .ref ya_text, .int 0, .int 0, .int 0, .int (-1), .int 0, .ref ya_statements, .ref ya_taken, .ref ya_sort, .ref ya_first, .ref ya_second, .int 0, .int 0])), (ya_heldOn, .inl (cI, 365, .inl yf_heldOn))]) [3, 4] rfl
  refine rwV (As := [.int (xs (1 : Int32).toNatClampNeg)]) (rest := [.int r_a]) (wc := [(yh, .inr (11, [.int 0, .int 0, .int 0, .int 0, .int 0, .int 0, .int 0, .int 0, .int 0, .ref ya_isPriest, .ref ya_bars, .ref ya_joined, .ref ya_turns, .ref ya_awayMonk, .ref ya_awayFrom, .ref ya_awayTo, .ref ya_feastDay, .ref ya_rank, .ref ya_isWeekly, .ref ya_isDouble, .ref ya_giftDay, .ref ya_giftFrom, .ref ya_owed, .ref ya_said, .ref ya_spared, .ref ya_leaveGift, .ref ya_leaveFrom, .ref ya_leaveTo, .ref ya_lateDay, .ref ya_lateOffice, .ref ya_lateBy, .ref ya_guests, .ref ya_who, .ref ya_used, .ref ya_lacks, .ref ya_candles, .ref ya_masses, .ref ya_owing, .ref ya_heldOn, .ref ya_waits, .ref ya_tape, .ref ya_text, .int 0, .int 0, .int 0, .int (-1), .int 0, .ref ya_statements, .ref ya_taken, .ref ya_sort, .ref ya_first, .ref ya_second, .int 0, .int 0])), (ya_heldOn, .inl (cI, 365, .inl yf_heldOn))]) (wr := [(xh, .inr (10, [.ref xa_bells, .ref xa_feasts, .ref xa_tape, .ref xa_reader, .ref xa_rules, .ref xa_monks, .ref xa_duties, .ref xa_gifts, .ref xa_figures, .int 0, .int 0, .int 0, .int 0, .int (-1), .int 0])), (xa_feasts, .inr (3, [.ref xfa_falls, .ref xfa_ranks, .ref xfa_standsOn, .ref xfa_heldOn, .ref xfa_holder, .ref xfa_standing, .int 0])), (xfa_holder, .inl (cI, 365, .inl xff_holder))]) S (m_held  ) (cwV 1 hts gL_law_X12_held rfl rfl rfl (by decide +kernel) ⟨Nat.le_of_ble_eq_true rfl, Nat.le_of_ble_eq_true rfl⟩) hK hP hD hS hA [3, 4] [0, 1, 2] rfl rfl (by decide) (by decide) (by decide) (va_recv hK.1 hPc (ci := 11) (q0 := 0) rfl rfl) rfl hl.1 rfl (Nat.le_of_ble_eq_true rfl) dL_law_280 ⟨Nat.le_of_ble_eq_true rfl, Nat.le_of_ble_eq_true rfl⟩ (fun r_b_ u_b_ H locs hw_b_ hP hD hS => ?_)
  obtain ⟨g1_b_, rfl⟩ : ∃ z, z = u_b_ := ⟨_, rfl⟩
  have hw_b_ : r_b_.toInt = -1 := hw_b_
  have hP : va_P D vwCl [(xh, .inr (10, [.ref xa_bells, .ref xa_feasts, .ref xa_tape, .ref xa_reader, .ref xa_rules, .ref xa_monks, .ref xa_duties, .ref xa_gifts, .ref xa_figures, .int 0, .int 0, .int 0, .int 0, .int (-1), .int 0])), (xa_feasts, .inr (3, [.ref xfa_falls, .ref xfa_ranks, .ref xfa_standsOn, .ref xfa_heldOn, .ref xfa_holder, .ref xfa_standing, .int 0])), (xfa_holder, .inl (cI, 365, .inl xff_holder)), (yh, .inr (11, [.int 0, .int 0, .int 0, .int 0, .int 0, .int 0, .int 0, .int 0, .int 0, .ref ya_isPriest, .ref ya_bars, .ref ya_joined, .ref ya_turns, .ref ya_awayMonk, .ref ya_awayFrom, .ref ya_awayTo, .ref ya_feastDay, .ref ya_rank, .ref ya_isWeekly, .ref ya_isDouble, .ref ya_giftDay, .ref ya_giftFrom, .ref ya_owed, .ref ya_said, .ref ya_spared, .ref ya_leaveGift, .ref ya_leaveFrom, .ref ya_leaveTo, .ref ya_lateDay, .ref ya_lateOffice, .ref ya_lateBy, .ref ya_guests, .ref ya_who, .ref ya_used, .ref ya_lacks, .ref ya_candles, .ref ya_masses, .ref ya_owing, .ref ya_heldOn, .ref ya_waits, .ref ya_tape, .ref ya_text, .int 0, .int 0, .int 0, .int (-1), .int 0, .ref ya_statements, .ref ya_taken, .ref ya_sort, .ref ya_first, .ref ya_second, .int 0, .int 0])), (ya_heldOn, .inl (cI, 365, .inl g1_b_))] H := hP
  have hD : va_D A [(xh, .inr (10, [.ref xa_bells, .ref xa_feasts, .ref xa_tape, .ref xa_reader, .ref xa_rules, .ref xa_monks, .ref xa_duties, .ref xa_gifts, .ref xa_figures, .int 0, .int 0, .int 0, .int 0, .int (-1), .int 0])), (xa_feasts, .inr (3, [.ref xfa_falls, .ref xfa_ranks, .ref xfa_standsOn, .ref xfa_heldOn, .ref xfa_holder, .ref xfa_standing, .int 0])), (xfa_holder, .inl (cI, 365, .inl xff_holder)), (yh, .inr (11, [.int 0, .int 0, .int 0, .int 0, .int 0, .int 0, .int 0, .int 0, .int 0, .ref ya_isPriest, .ref ya_bars, .ref ya_joined, .ref ya_turns, .ref ya_awayMonk, .ref ya_awayFrom, .ref ya_awayTo, .ref ya_feastDay, .ref ya_rank, .ref ya_isWeekly, .ref ya_isDouble, .ref ya_giftDay, .ref ya_giftFrom, .ref ya_owed, .ref ya_said, .ref ya_spared, .ref ya_leaveGift, .ref ya_leaveFrom, .ref ya_leaveTo, .ref ya_lateDay, .ref ya_lateOffice, .ref ya_lateBy, .ref ya_guests, .ref ya_who, .ref ya_used, .ref ya_lacks, .ref ya_candles, .ref ya_masses, .ref ya_owing, .ref ya_heldOn, .ref ya_waits, .ref ya_tape, .ref ya_text, .int 0, .int 0, .int 0, .int (-1), .int 0, .ref ya_statements, .ref ya_taken, .ref ya_sort, .ref ya_first, .ref ya_second, .int 0, .int 0])), (ya_heldOn, .inl (cI, 365, .inl g1_b_))] := hD
  refine lv_icmp_eq (tgt := 917) hx hb dL_law_283 (by decide) (fun cmp => ?_) (fun cmp => ?_)
  · have tcmp := t_eq cmp
    obtain ⟨x_4, ex_4⟩ : ∃ y : Int32, y = 0 + 6 := ⟨_, rfl⟩
    obtain rfl : x_4 = 6 := by rw [ex_4]; decide
    refine lv_iinc (v := 6) (lv' := [(3, .int 6), (2, .ref yh), (1, .ref xh), (0, .ref b)]) hx hb dL_law_917 hl (k := 0) rfl (by decide) (by decide) rfl (fun ls hl => ?_)
    refine lv_goto (tgt := 18) hx hb dL_law_920 (by decide) ?_
    refine lv_iload_n hx hb dL_law_18 rfl (lv_at hl 0 rfl) ?_
    refine lv_aload_n hx hb dL_law_19 rfl (lv_at hl 3 rfl) ?_
    refine va_slen hx hb hX hbl hbA hS dL_law_20 ?_
    refine lv_topi (fun x_5 ex_5 => ?_)
    have tx_5 : x_5.toInt = L := by rw [ex_5]; exact nI_toInt (by omega)
    refine lv_bipush (v := 6) hx hb dL_law_21 (by decide) ?_
    refine lv_isub hx hb dL_law_23 ?_
    refine lv_topi (fun x_6 ex_6 => ?_)
    first | have tx_6 := t_sub ex_6 (by omega) (by omega) | skip
    refine lv_icmp_gt (tgt := 923) hx hb dL_law_24 (by decide) (fun c_7 => ?_) (fun c_7 => ?_)
    · have tc_7 := t_lt c_7
      refine lv_iconst (v := 1) hx hb dL_law_923 (by decide) ?_
      refine va_forget (fun q hq => hAs _ (hS.2.2 q hq)) ?_
      refine W.widen (k := 600000) (n := 7302250) (Nat.le_of_ble_eq_true rfl) (Nat.le_of_ble_eq_true rfl) ?_
      exact lw_ret hx hb hr hlocks dL_law_924
    · have tc_7 := t_nlt c_7
      exfalso; omega
  · have tcmp := t_neq cmp
    exact absurd (Int32.toInt_inj.mp (by omega)) cmp

set_option maxHeartbeats 8000000 in
set_option maxRecDepth 100000 in
theorem law_case4 {p : Program} {e : Env} {s : State} {m : MethodId} {below : List Frame} {meth : Method} {c : Code} {l : Launch} {b L : Nat} {xs : Nat → Int32} {D : va_G} {cI cZ cB : ClassId} {A : Nat → Prop} {xh xa_bells xa_feasts xa_tape xa_reader xa_rules xa_monks xa_duties xa_gifts xa_figures xfa_falls xfa_ranks xfa_standsOn xfa_heldOn xfa_holder xfa_standing yh ya_isPriest ya_bars ya_joined ya_turns ya_awayMonk ya_awayFrom ya_awayTo ya_feastDay ya_rank ya_isWeekly ya_isDouble ya_giftDay ya_giftFrom ya_owed ya_said ya_spared ya_leaveGift ya_leaveFrom ya_leaveTo ya_lateDay ya_lateOffice ya_lateBy ya_guests ya_who ya_used ya_lacks ya_candles ya_masses ya_owing ya_heldOn ya_waits ya_tape ya_text ya_statements ya_taken ya_sort ya_first ya_second : Nat} {xff_heldOn yf_heldOn : Nat → Int32}  (hx : p.tables.exec = Jvm.exec) (hb : c.code = cL_law) (hr : meth.sig.returnType = ret) (hml : c.maxLocals = 4) (hown : s.vm.findClass RL = some m.cls) (hts0 : ∀ w ∈ lw_tbl, w.before #[Value.ref b] s = true) (hX : va_X b L xs s s.heap) (hbl : b < s.heap.size) (hlocks : meth.locks = false) (hK : KK D cI cZ cB s) (hA : ∀ q : Nat, s.heap.size ≤ q → A q) (hAs : ∀ q : Nat, A q → s.heap.size ≤ q) (hbA : ¬ A b) (hL : L ≤ 6) (h6 : 6 ≤ L) {H : Heap} {locs : List Loc} (hP : va_P D vwCl [(xh, .inr (10, [.ref xa_bells, .ref xa_feasts, .ref xa_tape, .ref xa_reader, .ref xa_rules, .ref xa_monks, .ref xa_duties, .ref xa_gifts, .ref xa_figures, .int 0, .int 0, .int 0, .int 0, .int (-1), .int 0])), (xa_feasts, .inr (3, [.ref xfa_falls, .ref xfa_ranks, .ref xfa_standsOn, .ref xfa_heldOn, .ref xfa_holder, .ref xfa_standing, .int 0])), (xfa_heldOn, .inl (cI, 40, .inl xff_heldOn)), (yh, .inr (11, [.int 0, .int 0, .int 0, .int 0, .int 0, .int 0, .int 0, .int 0, .int 0, .ref ya_isPriest, .ref ya_bars, .ref ya_joined, .ref ya_turns, .ref ya_awayMonk, .ref ya_awayFrom, .ref ya_awayTo, .ref ya_feastDay, .ref ya_rank, .ref ya_isWeekly, .ref ya_isDouble, .ref ya_giftDay, .ref ya_giftFrom, .ref ya_owed, .ref ya_said, .ref ya_spared, .ref ya_leaveGift, .ref ya_leaveFrom, .ref ya_leaveTo, .ref ya_lateDay, .ref ya_lateOffice, .ref ya_lateBy, .ref ya_guests, .ref ya_who, .ref ya_used, .ref ya_lacks, .ref ya_candles, .ref ya_masses, .ref ya_owing, .ref ya_heldOn, .ref ya_waits, .ref ya_tape, .ref ya_text, .int 0, .int 0, .int 0, .int (-1), .int 0, .ref ya_statements, .ref ya_taken, .ref ya_sort, .ref ya_first, .ref ya_second, .int 0, .int 0])), (ya_heldOn, .inl (cI, 365, .inl yf_heldOn))] H) (hD : va_D A [(xh, .inr (10, [.ref xa_bells, .ref xa_feasts, .ref xa_tape, .ref xa_reader, .ref xa_rules, .ref xa_monks, .ref xa_duties, .ref xa_gifts, .ref xa_figures, .int 0, .int 0, .int 0, .int 0, .int (-1), .int 0])), (xa_feasts, .inr (3, [.ref xfa_falls, .ref xfa_ranks, .ref xfa_standsOn, .ref xfa_heldOn, .ref xfa_holder, .ref xfa_standing, .int 0])), (xfa_heldOn, .inl (cI, 40, .inl xff_heldOn)), (yh, .inr (11, [.int 0, .int 0, .int 0, .int 0, .int 0, .int 0, .int 0, .int 0, .int 0, .ref ya_isPriest, .ref ya_bars, .ref ya_joined, .ref ya_turns, .ref ya_awayMonk, .ref ya_awayFrom, .ref ya_awayTo, .ref ya_feastDay, .ref ya_rank, .ref ya_isWeekly, .ref ya_isDouble, .ref ya_giftDay, .ref ya_giftFrom, .ref ya_owed, .ref ya_said, .ref ya_spared, .ref ya_leaveGift, .ref ya_leaveFrom, .ref ya_leaveTo, .ref ya_lateDay, .ref ya_lateOffice, .ref ya_lateBy, .ref ya_guests, .ref ya_who, .ref ya_used, .ref ya_lacks, .ref ya_candles, .ref ya_masses, .ref ya_owing, .ref ya_heldOn, .ref ya_waits, .ref ya_tape, .ref ya_text, .int 0, .int 0, .int 0, .int (-1), .int 0, .ref ya_statements, .ref ya_taken, .ref ya_sort, .ref ya_first, .ref ya_second, .int 0, .int 0])), (ya_heldOn, .inl (cI, 365, .inl yf_heldOn))]) (hS : va_S A s.heap H locs) (ls : Array Slot) (hl : lv_has ls 4 [(3, .int 0), (2, .ref yh), (1, .ref xh), (0, .ref b)]) : W p l e room_1 s m #[Value.ref b] below meth c H locs 90 16895 (lw_Z below #[Value.ref b] s) (F0 m 288 ls []) := by
  have hts : ∀ w ∈ wsL_law, w.before #[Value.ref b] s = true := fun w h => hts0 w (wsL_law_in w h)
  have S : CallFix p m c cL_law 4 s #[Value.ref b] wsL_law RL := ⟨hx, hb, hml, hown, hts⟩
  have kk0 : (0 : Int32).toInt = 0 := by decide
  have kk1 : (1 : Int32).toInt = 1 := by decide
  have kk2 : (2 : Int32).toInt = 2 := by decide
  have kk3 : (3 : Int32).toInt = 3 := by decide
  have kk4 : (4 : Int32).toInt = 4 := by decide
  have kk5 : (5 : Int32).toInt = 5 := by decide
  have kk6 : (6 : Int32).toInt = 6 := by decide
  have kk31 : (31 : Int32).toInt = 31 := by decide
  have kkm1 : (-1 : Int32).toInt = -1 := by decide
  refine lv_aload_n hx hb dL_law_288 rfl (lv_at hl 2 rfl) ?_
  refine lv_aload_n hx hb dL_law_289 rfl (lv_at hl 3 rfl) ?_
  refine lv_iload_n hx hb dL_law_290 rfl (lv_at hl 0 rfl) ?_
  refine lv_iconst (v := 1) hx hb dL_law_291 (by decide) ?_
  refine lv_iadd hx hb dL_law_292 ?_
  refine lv_topi (fun x_1 ex_1 => ?_)
  obtain rfl : x_1 = 1 := by rw [ex_1]; decide
  refine va_sld hx hb hX hbl hbA hS (t_in (by omega) (by omega)) dL_law_293 ?_
  have hPc := hP.sub (ws' := [(xh, .inr (10, [.ref xa_bells, .ref xa_feasts, .ref xa_tape, .ref xa_reader, .ref xa_rules, .ref xa_monks, .ref xa_duties, .ref xa_gifts, .ref xa_figures, .int 0, .int 0, .int 0, .int 0, .int (-1), .int 0])), (xa_feasts, .inr (3, [.ref xfa_falls, .ref xfa_ranks, .ref xfa_standsOn, .ref xfa_heldOn, .ref xfa_holder, .ref xfa_standing, .int 0])), (xfa_heldOn, .inl (cI, 40, .inl xff_heldOn))]) [0, 1, 2] rfl
  refine roV (As := [.int (xs (1 : Int32).toNatClampNeg)]) (rest := []) S (p_when  ) (cwV 1 hts gL_law_X11_when rfl rfl rfl (by decide +kernel) ⟨Nat.le_of_ble_eq_true rfl, Nat.le_of_ble_eq_true rfl⟩) hK hPc (va_recv hK.1 hPc (ci := 10) (q0 := 0) rfl rfl) rfl hl.1 rfl (Nat.le_of_ble_eq_true rfl) dL_law_294 ⟨Nat.le_of_ble_eq_true rfl, Nat.le_of_ble_eq_true rfl⟩ (fun r_a hw_a => ?_)
  have hw_a : r_a.toInt = -1 := hw_a
  refine lv_aload_n hx hb dL_law_297 rfl (lv_at hl 1 rfl) ?_
  refine lv_aload_n hx hb dL_law_298 rfl (lv_at hl 3 rfl) ?_
  refine lv_iload_n hx hb dL_law_299 rfl (lv_at hl 0 rfl) ?_
  refine lv_iconst (v := 1) hx hb dL_law_300 (by decide) ?_
  refine lv_iadd hx hb dL_law_301 ?_
  refine lv_topi (fun x_2 ex_2 => ?_)
  obtain rfl : x_2 = 1 := by rw [ex_2]; decide
  refine va_sld hx hb hX hbl hbA hS (t_in (by omega) (by omega)) dL_law_302 ?_
  have hPc := hP.sub (ws' := [(yh, .inr (11, [.int 0, .int 0, .int 0, .int 0, .int 0, .int 0, .int 0, .int 0, .int 0, .ref ya_isPriest, .ref ya_bars, .ref ya_joined, .ref ya_turns, .ref ya_awayMonk, .ref ya_awayFrom, .ref ya_awayTo, .ref ya_feastDay, .ref ya_rank, .ref ya_isWeekly, .ref ya_isDouble, .ref ya_giftDay, .ref ya_giftFrom, .ref ya_owed, .ref ya_said, .ref ya_spared, .ref ya_leaveGift, .ref ya_leaveFrom, .ref ya_leaveTo, .ref ya_lateDay, .ref ya_lateOffice, .ref ya_lateBy, .ref ya_guests, .ref ya_who, .ref ya_used, .ref ya_lacks, .ref ya_candles, .ref ya_masses, .ref ya_owing, .ref ya_heldOn, .ref ya_waits, .ref ya_tape, .ref ya_text, .int 0, .int 0, .int 0, .int (-1), .int 0, .ref ya_statements, .ref ya_taken, .ref ya_sort, .ref ya_first, .ref ya_second, .int 0, .int 0])), (ya_heldOn, .inl (cI, 365, .inl yf_heldOn))]) [3, 4] rfl
  refine rwV (As := [.int (xs (1 : Int32).toNatClampNeg)]) (rest := [.int r_a]) (wc := [(yh, .inr (11, [.int 0, .int 0, .int 0, .int 0, .int 0, .int 0, .int 0, .int 0, .int 0, .ref ya_isPriest, .ref ya_bars, .ref ya_joined, .ref ya_turns, .ref ya_awayMonk, .ref ya_awayFrom, .ref ya_awayTo, .ref ya_feastDay, .ref ya_rank, .ref ya_isWeekly, .ref ya_isDouble, .ref ya_giftDay, .ref ya_giftFrom, .ref ya_owed, .ref ya_said, .ref ya_spared, .ref ya_leaveGift, .ref ya_leaveFrom, .ref ya_leaveTo, .ref ya_lateDay, .ref ya_lateOffice, .ref ya_lateBy, .ref ya_guests, .ref ya_who, .ref ya_used, .ref ya_lacks, .ref ya_candles, .ref ya_masses, .ref ya_owing, .ref ya_heldOn, .ref ya_waits, .ref ya_tape, .ref ya_text, .int 0, .int 0, .int 0, .int (-1), .int 0, .ref ya_statements, .ref ya_taken, .ref ya_sort, .ref ya_first, .ref ya_second, .int 0, .int 0])), (ya_heldOn, .inl (cI, 365, .inl yf_heldOn))]) (wr := [(xh, .inr (10, [.ref xa_bells, .ref xa_feasts, .ref xa_tape, .ref xa_reader, .ref xa_rules, .ref xa_monks, .ref xa_duties, .ref xa_gifts, .ref xa_figures, .int 0, .int 0, .int 0, .int 0, .int (-1), .int 0])), (xa_feasts, .inr (3, [.ref xfa_falls, .ref xfa_ranks, .ref xfa_standsOn, .ref xfa_heldOn, .ref xfa_holder, .ref xfa_standing, .int 0])), (xfa_heldOn, .inl (cI, 40, .inl xff_heldOn))]) S (m_when  ) (cwV 1 hts gL_law_X12_when rfl rfl rfl (by decide +kernel) ⟨Nat.le_of_ble_eq_true rfl, Nat.le_of_ble_eq_true rfl⟩) hK hP hD hS hA [3, 4] [0, 1, 2] rfl rfl (by decide) (by decide) (by decide) (va_recv hK.1 hPc (ci := 11) (q0 := 0) rfl rfl) rfl hl.1 rfl (Nat.le_of_ble_eq_true rfl) dL_law_303 ⟨Nat.le_of_ble_eq_true rfl, Nat.le_of_ble_eq_true rfl⟩ (fun r_b_ u_b_ H locs hw_b_ hP hD hS => ?_)
  obtain ⟨g1_b_, rfl⟩ : ∃ z, z = u_b_ := ⟨_, rfl⟩
  have hw_b_ : r_b_.toInt = -1 := hw_b_
  have hP : va_P D vwCl [(xh, .inr (10, [.ref xa_bells, .ref xa_feasts, .ref xa_tape, .ref xa_reader, .ref xa_rules, .ref xa_monks, .ref xa_duties, .ref xa_gifts, .ref xa_figures, .int 0, .int 0, .int 0, .int 0, .int (-1), .int 0])), (xa_feasts, .inr (3, [.ref xfa_falls, .ref xfa_ranks, .ref xfa_standsOn, .ref xfa_heldOn, .ref xfa_holder, .ref xfa_standing, .int 0])), (xfa_heldOn, .inl (cI, 40, .inl xff_heldOn)), (yh, .inr (11, [.int 0, .int 0, .int 0, .int 0, .int 0, .int 0, .int 0, .int 0, .int 0, .ref ya_isPriest, .ref ya_bars, .ref ya_joined, .ref ya_turns, .ref ya_awayMonk, .ref ya_awayFrom, .ref ya_awayTo, .ref ya_feastDay, .ref ya_rank, .ref ya_isWeekly, .ref ya_isDouble, .ref ya_giftDay, .ref ya_giftFrom, .ref ya_owed, .ref ya_said, .ref ya_spared, .ref ya_leaveGift, .ref ya_leaveFrom, .ref ya_leaveTo, .ref ya_lateDay, .ref ya_lateOffice, .ref ya_lateBy, .ref ya_guests, .ref ya_who, .ref ya_used, .ref ya_lacks, .ref ya_candles, .ref ya_masses, .ref ya_owing, .ref ya_heldOn, .ref ya_waits, .ref ya_tape, .ref ya_text, .int 0, .int 0, .int 0, .int (-1), .int 0, .ref ya_statements, .ref ya_taken, .ref ya_sort, .ref ya_first, .ref ya_second, .int 0, .int 0])), (ya_heldOn, .inl (cI, 365, .inl g1_b_))] H := hP
  have hD : va_D A [(xh, .inr (10, [.ref xa_bells, .ref xa_feasts, .ref xa_tape, .ref xa_reader, .ref xa_rules, .ref xa_monks, .ref xa_duties, .ref xa_gifts, .ref xa_figures, .int 0, .int 0, .int 0, .int 0, .int (-1), .int 0])), (xa_feasts, .inr (3, [.ref xfa_falls, .ref xfa_ranks, .ref xfa_standsOn, .ref xfa_heldOn, .ref xfa_holder, .ref xfa_standing, .int 0])), (xfa_heldOn, .inl (cI, 40, .inl xff_heldOn)), (yh, .inr (11, [.int 0, .int 0, .int 0, .int 0, .int 0, .int 0, .int 0, .int 0, .int 0, .ref ya_isPriest, .ref ya_bars, .ref ya_joined, .ref ya_turns, .ref ya_awayMonk, .ref ya_awayFrom, .ref ya_awayTo, .ref ya_feastDay, .ref ya_rank, .ref ya_isWeekly, .ref ya_isDouble, .ref ya_giftDay, .ref ya_giftFrom, .ref ya_owed, .ref ya_said, .ref ya_spared, .ref ya_leaveGift, .ref ya_leaveFrom, .ref ya_leaveTo, .ref ya_lateDay, .ref ya_lateOffice, .ref ya_lateBy, .ref ya_guests, .ref ya_who, .ref ya_used, .ref ya_lacks, .ref ya_candles, .ref ya_masses, .ref ya_owing, .ref ya_heldOn, .ref ya_waits, .ref ya_tape, .ref ya_text, .int 0, .int 0, .int 0, .int (-1), .int 0, .ref ya_statements, .ref ya_taken, .ref ya_sort, .ref ya_first, .ref ya_second, .int 0, .int 0])), (ya_heldOn, .inl (cI, 365, .inl g1_b_))] := hD
  refine lv_icmp_eq (tgt := 917) hx hb dL_law_306 (by decide) (fun cmp => ?_) (fun cmp => ?_)
  · have tcmp := t_eq cmp
    obtain ⟨x_4, ex_4⟩ : ∃ y : Int32, y = 0 + 6 := ⟨_, rfl⟩
    obtain rfl : x_4 = 6 := by rw [ex_4]; decide
    refine lv_iinc (v := 6) (lv' := [(3, .int 6), (2, .ref yh), (1, .ref xh), (0, .ref b)]) hx hb dL_law_917 hl (k := 0) rfl (by decide) (by decide) rfl (fun ls hl => ?_)
    refine lv_goto (tgt := 18) hx hb dL_law_920 (by decide) ?_
    refine lv_iload_n hx hb dL_law_18 rfl (lv_at hl 0 rfl) ?_
    refine lv_aload_n hx hb dL_law_19 rfl (lv_at hl 3 rfl) ?_
    refine va_slen hx hb hX hbl hbA hS dL_law_20 ?_
    refine lv_topi (fun x_5 ex_5 => ?_)
    have tx_5 : x_5.toInt = L := by rw [ex_5]; exact nI_toInt (by omega)
    refine lv_bipush (v := 6) hx hb dL_law_21 (by decide) ?_
    refine lv_isub hx hb dL_law_23 ?_
    refine lv_topi (fun x_6 ex_6 => ?_)
    first | have tx_6 := t_sub ex_6 (by omega) (by omega) | skip
    refine lv_icmp_gt (tgt := 923) hx hb dL_law_24 (by decide) (fun c_7 => ?_) (fun c_7 => ?_)
    · have tc_7 := t_lt c_7
      refine lv_iconst (v := 1) hx hb dL_law_923 (by decide) ?_
      refine va_forget (fun q hq => hAs _ (hS.2.2 q hq)) ?_
      refine W.widen (k := 600000) (n := 7302250) (Nat.le_of_ble_eq_true rfl) (Nat.le_of_ble_eq_true rfl) ?_
      exact lw_ret hx hb hr hlocks dL_law_924
    · have tc_7 := t_nlt c_7
      exfalso; omega
  · have tcmp := t_neq cmp
    exact absurd (Int32.toInt_inj.mp (by omega)) cmp

set_option maxHeartbeats 8000000 in
set_option maxRecDepth 100000 in
theorem law_case5 {p : Program} {e : Env} {s : State} {m : MethodId} {below : List Frame} {meth : Method} {c : Code} {l : Launch} {b L : Nat} {xs : Nat → Int32} {D : va_G} {cI cZ cB : ClassId} {A : Nat → Prop} {xh xa_bells xa_feasts xa_tape xa_reader xa_rules xa_monks xa_duties xa_gifts xa_figures yh ya_isPriest ya_bars ya_joined ya_turns ya_awayMonk ya_awayFrom ya_awayTo ya_feastDay ya_rank ya_isWeekly ya_isDouble ya_giftDay ya_giftFrom ya_owed ya_said ya_spared ya_leaveGift ya_leaveFrom ya_leaveTo ya_lateDay ya_lateOffice ya_lateBy ya_guests ya_who ya_used ya_lacks ya_candles ya_masses ya_owing ya_heldOn ya_waits ya_tape ya_text ya_statements ya_taken ya_sort ya_first ya_second : Nat}  (hx : p.tables.exec = Jvm.exec) (hb : c.code = cL_law) (hr : meth.sig.returnType = ret) (hml : c.maxLocals = 4) (hown : s.vm.findClass RL = some m.cls) (hts0 : ∀ w ∈ lw_tbl, w.before #[Value.ref b] s = true) (hX : va_X b L xs s s.heap) (hbl : b < s.heap.size) (hlocks : meth.locks = false) (hK : KK D cI cZ cB s) (hA : ∀ q : Nat, s.heap.size ≤ q → A q) (hAs : ∀ q : Nat, A q → s.heap.size ≤ q) (hbA : ¬ A b) (hL : L ≤ 6) (h6 : 6 ≤ L) {H : Heap} {locs : List Loc} (hP : va_P D vwCl [(xh, .inr (10, [.ref xa_bells, .ref xa_feasts, .ref xa_tape, .ref xa_reader, .ref xa_rules, .ref xa_monks, .ref xa_duties, .ref xa_gifts, .ref xa_figures, .int 0, .int 0, .int 0, .int 0, .int (-1), .int 0])), (yh, .inr (11, [.int 0, .int 0, .int 0, .int 0, .int 0, .int 0, .int 0, .int 0, .int 0, .ref ya_isPriest, .ref ya_bars, .ref ya_joined, .ref ya_turns, .ref ya_awayMonk, .ref ya_awayFrom, .ref ya_awayTo, .ref ya_feastDay, .ref ya_rank, .ref ya_isWeekly, .ref ya_isDouble, .ref ya_giftDay, .ref ya_giftFrom, .ref ya_owed, .ref ya_said, .ref ya_spared, .ref ya_leaveGift, .ref ya_leaveFrom, .ref ya_leaveTo, .ref ya_lateDay, .ref ya_lateOffice, .ref ya_lateBy, .ref ya_guests, .ref ya_who, .ref ya_used, .ref ya_lacks, .ref ya_candles, .ref ya_masses, .ref ya_owing, .ref ya_heldOn, .ref ya_waits, .ref ya_tape, .ref ya_text, .int 0, .int 0, .int 0, .int (-1), .int 0, .ref ya_statements, .ref ya_taken, .ref ya_sort, .ref ya_first, .ref ya_second, .int 0, .int 0]))] H) (hD : va_D A [(xh, .inr (10, [.ref xa_bells, .ref xa_feasts, .ref xa_tape, .ref xa_reader, .ref xa_rules, .ref xa_monks, .ref xa_duties, .ref xa_gifts, .ref xa_figures, .int 0, .int 0, .int 0, .int 0, .int (-1), .int 0])), (yh, .inr (11, [.int 0, .int 0, .int 0, .int 0, .int 0, .int 0, .int 0, .int 0, .int 0, .ref ya_isPriest, .ref ya_bars, .ref ya_joined, .ref ya_turns, .ref ya_awayMonk, .ref ya_awayFrom, .ref ya_awayTo, .ref ya_feastDay, .ref ya_rank, .ref ya_isWeekly, .ref ya_isDouble, .ref ya_giftDay, .ref ya_giftFrom, .ref ya_owed, .ref ya_said, .ref ya_spared, .ref ya_leaveGift, .ref ya_leaveFrom, .ref ya_leaveTo, .ref ya_lateDay, .ref ya_lateOffice, .ref ya_lateBy, .ref ya_guests, .ref ya_who, .ref ya_used, .ref ya_lacks, .ref ya_candles, .ref ya_masses, .ref ya_owing, .ref ya_heldOn, .ref ya_waits, .ref ya_tape, .ref ya_text, .int 0, .int 0, .int 0, .int (-1), .int 0, .ref ya_statements, .ref ya_taken, .ref ya_sort, .ref ya_first, .ref ya_second, .int 0, .int 0]))]) (hS : va_S A s.heap H locs) (ls : Array Slot) (hl : lv_has ls 4 [(3, .int 0), (2, .ref yh), (1, .ref xh), (0, .ref b)]) : W p l e room_1 s m #[Value.ref b] below meth c H locs 90 16895 (lw_Z below #[Value.ref b] s) (F0 m 311 ls []) := by
  have hts : ∀ w ∈ wsL_law, w.before #[Value.ref b] s = true := fun w h => hts0 w (wsL_law_in w h)
  have S : CallFix p m c cL_law 4 s #[Value.ref b] wsL_law RL := ⟨hx, hb, hml, hown, hts⟩
  have kk0 : (0 : Int32).toInt = 0 := by decide
  have kk1 : (1 : Int32).toInt = 1 := by decide
  have kk2 : (2 : Int32).toInt = 2 := by decide
  have kk3 : (3 : Int32).toInt = 3 := by decide
  have kk4 : (4 : Int32).toInt = 4 := by decide
  have kk5 : (5 : Int32).toInt = 5 := by decide
  have kk6 : (6 : Int32).toInt = 6 := by decide
  have kk31 : (31 : Int32).toInt = 31 := by decide
  have kkm1 : (-1 : Int32).toInt = -1 := by decide
  refine lv_aload_n hx hb dL_law_311 rfl (lv_at hl 2 rfl) ?_
  refine lv_aload_n hx hb dL_law_312 rfl (lv_at hl 3 rfl) ?_
  refine lv_iload_n hx hb dL_law_313 rfl (lv_at hl 0 rfl) ?_
  refine lv_iconst (v := 1) hx hb dL_law_314 (by decide) ?_
  refine lv_iadd hx hb dL_law_315 ?_
  refine lv_topi (fun x_1 ex_1 => ?_)
  obtain rfl : x_1 = 1 := by rw [ex_1]; decide
  refine va_sld hx hb hX hbl hbA hS (t_in (by omega) (by omega)) dL_law_316 ?_
  refine lv_aload_n hx hb dL_law_317 rfl (lv_at hl 3 rfl) ?_
  refine lv_iload_n hx hb dL_law_318 rfl (lv_at hl 0 rfl) ?_
  refine lv_iconst (v := 2) hx hb dL_law_319 (by decide) ?_
  refine lv_iadd hx hb dL_law_320 ?_
  refine lv_topi (fun x_2 ex_2 => ?_)
  obtain rfl : x_2 = 2 := by rw [ex_2]; decide
  refine va_sld hx hb hX hbl hbA hS (t_in (by omega) (by omega)) dL_law_321 ?_
  have hPc := hP.sub (ws' := [(xh, .inr (10, [.ref xa_bells, .ref xa_feasts, .ref xa_tape, .ref xa_reader, .ref xa_rules, .ref xa_monks, .ref xa_duties, .ref xa_gifts, .ref xa_figures, .int 0, .int 0, .int 0, .int 0, .int (-1), .int 0]))]) [0] rfl
  refine roV (As := [.int (xs (1 : Int32).toNatClampNeg), .int (xs (2 : Int32).toNatClampNeg)]) (rest := []) S (p_light  ) (cwV 2 hts gL_law_X11_light rfl rfl rfl (by decide +kernel) ⟨Nat.le_of_ble_eq_true rfl, Nat.le_of_ble_eq_true rfl⟩) hK hPc (va_recv hK.1 hPc (ci := 10) (q0 := 0) rfl rfl) rfl hl.1 rfl (Nat.le_of_ble_eq_true rfl) dL_law_322 ⟨Nat.le_of_ble_eq_true rfl, Nat.le_of_ble_eq_true rfl⟩ (fun r_a hw_a => ?_)
  have hw_a : r_a = lightF (xs (1 : Int32).toNatClampNeg) (xs (2 : Int32).toNatClampNeg) := hw_a
  refine lv_aload_n hx hb dL_law_325 rfl (lv_at hl 1 rfl) ?_
  refine lv_aload_n hx hb dL_law_326 rfl (lv_at hl 3 rfl) ?_
  refine lv_iload_n hx hb dL_law_327 rfl (lv_at hl 0 rfl) ?_
  refine lv_iconst (v := 1) hx hb dL_law_328 (by decide) ?_
  refine lv_iadd hx hb dL_law_329 ?_
  refine lv_topi (fun x_3 ex_3 => ?_)
  obtain rfl : x_3 = 1 := by rw [ex_3]; decide
  refine va_sld hx hb hX hbl hbA hS (t_in (by omega) (by omega)) dL_law_330 ?_
  refine lv_aload_n hx hb dL_law_331 rfl (lv_at hl 3 rfl) ?_
  refine lv_iload_n hx hb dL_law_332 rfl (lv_at hl 0 rfl) ?_
  refine lv_iconst (v := 2) hx hb dL_law_333 (by decide) ?_
  refine lv_iadd hx hb dL_law_334 ?_
  refine lv_topi (fun x_4 ex_4 => ?_)
  obtain rfl : x_4 = 2 := by rw [ex_4]; decide
  refine va_sld hx hb hX hbl hbA hS (t_in (by omega) (by omega)) dL_law_335 ?_
  have hPc := hP.sub (ws' := [(yh, .inr (11, [.int 0, .int 0, .int 0, .int 0, .int 0, .int 0, .int 0, .int 0, .int 0, .ref ya_isPriest, .ref ya_bars, .ref ya_joined, .ref ya_turns, .ref ya_awayMonk, .ref ya_awayFrom, .ref ya_awayTo, .ref ya_feastDay, .ref ya_rank, .ref ya_isWeekly, .ref ya_isDouble, .ref ya_giftDay, .ref ya_giftFrom, .ref ya_owed, .ref ya_said, .ref ya_spared, .ref ya_leaveGift, .ref ya_leaveFrom, .ref ya_leaveTo, .ref ya_lateDay, .ref ya_lateOffice, .ref ya_lateBy, .ref ya_guests, .ref ya_who, .ref ya_used, .ref ya_lacks, .ref ya_candles, .ref ya_masses, .ref ya_owing, .ref ya_heldOn, .ref ya_waits, .ref ya_tape, .ref ya_text, .int 0, .int 0, .int 0, .int (-1), .int 0, .ref ya_statements, .ref ya_taken, .ref ya_sort, .ref ya_first, .ref ya_second, .int 0, .int 0]))]) [1] rfl
  refine roV (As := [.int (xs (1 : Int32).toNatClampNeg), .int (xs (2 : Int32).toNatClampNeg)]) (rest := [.int r_a]) S (q_light  ) (cwV 2 hts gL_law_X12_light rfl rfl rfl (by decide +kernel) ⟨Nat.le_of_ble_eq_true rfl, Nat.le_of_ble_eq_true rfl⟩) hK hPc (va_recv hK.1 hPc (ci := 11) (q0 := 0) rfl rfl) rfl hl.1 rfl (Nat.le_of_ble_eq_true rfl) dL_law_336 ⟨Nat.le_of_ble_eq_true rfl, Nat.le_of_ble_eq_true rfl⟩ (fun r_b_ hw_b_ => ?_)
  have hw_b_ : r_b_ = lightF (xs (1 : Int32).toNatClampNeg) (xs (2 : Int32).toNatClampNeg) := hw_b_
  refine lv_icmp_eq (tgt := 917) hx hb dL_law_339 (by decide) (fun cmp => ?_) (fun cmp => ?_)
  · have tcmp := t_eq cmp
    obtain ⟨x_6, ex_6⟩ : ∃ y : Int32, y = 0 + 6 := ⟨_, rfl⟩
    obtain rfl : x_6 = 6 := by rw [ex_6]; decide
    refine lv_iinc (v := 6) (lv' := [(3, .int 6), (2, .ref yh), (1, .ref xh), (0, .ref b)]) hx hb dL_law_917 hl (k := 0) rfl (by decide) (by decide) rfl (fun ls hl => ?_)
    refine lv_goto (tgt := 18) hx hb dL_law_920 (by decide) ?_
    refine lv_iload_n hx hb dL_law_18 rfl (lv_at hl 0 rfl) ?_
    refine lv_aload_n hx hb dL_law_19 rfl (lv_at hl 3 rfl) ?_
    refine va_slen hx hb hX hbl hbA hS dL_law_20 ?_
    refine lv_topi (fun x_7 ex_7 => ?_)
    have tx_7 : x_7.toInt = L := by rw [ex_7]; exact nI_toInt (by omega)
    refine lv_bipush (v := 6) hx hb dL_law_21 (by decide) ?_
    refine lv_isub hx hb dL_law_23 ?_
    refine lv_topi (fun x_8 ex_8 => ?_)
    first | have tx_8 := t_sub ex_8 (by omega) (by omega) | skip
    refine lv_icmp_gt (tgt := 923) hx hb dL_law_24 (by decide) (fun c_9 => ?_) (fun c_9 => ?_)
    · have tc_9 := t_lt c_9
      refine lv_iconst (v := 1) hx hb dL_law_923 (by decide) ?_
      refine va_forget (fun q hq => hAs _ (hS.2.2 q hq)) ?_
      refine W.widen (k := 600000) (n := 7302250) (Nat.le_of_ble_eq_true rfl) (Nat.le_of_ble_eq_true rfl) ?_
      exact lw_ret hx hb hr hlocks dL_law_924
    · have tc_9 := t_nlt c_9
      exfalso; omega
  · have tcmp := t_neq cmp
    exact absurd (hw_a.trans hw_b_.symm) cmp

set_option maxHeartbeats 8000000 in
set_option maxRecDepth 100000 in
theorem law_case6 {p : Program} {e : Env} {s : State} {m : MethodId} {below : List Frame} {meth : Method} {c : Code} {l : Launch} {b L : Nat} {xs : Nat → Int32} {D : va_G} {cI cZ cB : ClassId} {A : Nat → Prop} {xh xa_bells xa_feasts xa_tape xa_reader xa_rules xa_monks xa_duties xa_gifts xa_figures xba_days xba_offices xba_delays yh ya_isPriest ya_bars ya_joined ya_turns ya_awayMonk ya_awayFrom ya_awayTo ya_feastDay ya_rank ya_isWeekly ya_isDouble ya_giftDay ya_giftFrom ya_owed ya_said ya_spared ya_leaveGift ya_leaveFrom ya_leaveTo ya_lateDay ya_lateOffice ya_lateBy ya_guests ya_who ya_used ya_lacks ya_candles ya_masses ya_owing ya_heldOn ya_waits ya_tape ya_text ya_statements ya_taken ya_sort ya_first ya_second : Nat} {xbf_days xbf_offices xbf_delays : Nat → Int32}  (hx : p.tables.exec = Jvm.exec) (hb : c.code = cL_law) (hr : meth.sig.returnType = ret) (hml : c.maxLocals = 4) (hown : s.vm.findClass RL = some m.cls) (hts0 : ∀ w ∈ lw_tbl, w.before #[Value.ref b] s = true) (hX : va_X b L xs s s.heap) (hbl : b < s.heap.size) (hlocks : meth.locks = false) (hK : KK D cI cZ cB s) (hA : ∀ q : Nat, s.heap.size ≤ q → A q) (hAs : ∀ q : Nat, A q → s.heap.size ≤ q) (hbA : ¬ A b) (hL : L ≤ 6) (h6 : 6 ≤ L) {H : Heap} {locs : List Loc} (hP : va_P D vwCl [(xh, .inr (10, [.ref xa_bells, .ref xa_feasts, .ref xa_tape, .ref xa_reader, .ref xa_rules, .ref xa_monks, .ref xa_duties, .ref xa_gifts, .ref xa_figures, .int 0, .int 0, .int 0, .int 0, .int (-1), .int 0])), (xa_bells, .inr (0, [.ref xba_days, .ref xba_offices, .ref xba_delays, .int 0])), (xba_days, .inl (cI, 100, .inl xbf_days)), (xba_offices, .inl (cI, 100, .inl xbf_offices)), (xba_delays, .inl (cI, 100, .inl xbf_delays)), (yh, .inr (11, [.int 0, .int 0, .int 0, .int 0, .int 0, .int 0, .int 0, .int 0, .int 0, .ref ya_isPriest, .ref ya_bars, .ref ya_joined, .ref ya_turns, .ref ya_awayMonk, .ref ya_awayFrom, .ref ya_awayTo, .ref ya_feastDay, .ref ya_rank, .ref ya_isWeekly, .ref ya_isDouble, .ref ya_giftDay, .ref ya_giftFrom, .ref ya_owed, .ref ya_said, .ref ya_spared, .ref ya_leaveGift, .ref ya_leaveFrom, .ref ya_leaveTo, .ref ya_lateDay, .ref ya_lateOffice, .ref ya_lateBy, .ref ya_guests, .ref ya_who, .ref ya_used, .ref ya_lacks, .ref ya_candles, .ref ya_masses, .ref ya_owing, .ref ya_heldOn, .ref ya_waits, .ref ya_tape, .ref ya_text, .int 0, .int 0, .int 0, .int (-1), .int 0, .ref ya_statements, .ref ya_taken, .ref ya_sort, .ref ya_first, .ref ya_second, .int 0, .int 0]))] H) (hD : va_D A [(xh, .inr (10, [.ref xa_bells, .ref xa_feasts, .ref xa_tape, .ref xa_reader, .ref xa_rules, .ref xa_monks, .ref xa_duties, .ref xa_gifts, .ref xa_figures, .int 0, .int 0, .int 0, .int 0, .int (-1), .int 0])), (xa_bells, .inr (0, [.ref xba_days, .ref xba_offices, .ref xba_delays, .int 0])), (xba_days, .inl (cI, 100, .inl xbf_days)), (xba_offices, .inl (cI, 100, .inl xbf_offices)), (xba_delays, .inl (cI, 100, .inl xbf_delays)), (yh, .inr (11, [.int 0, .int 0, .int 0, .int 0, .int 0, .int 0, .int 0, .int 0, .int 0, .ref ya_isPriest, .ref ya_bars, .ref ya_joined, .ref ya_turns, .ref ya_awayMonk, .ref ya_awayFrom, .ref ya_awayTo, .ref ya_feastDay, .ref ya_rank, .ref ya_isWeekly, .ref ya_isDouble, .ref ya_giftDay, .ref ya_giftFrom, .ref ya_owed, .ref ya_said, .ref ya_spared, .ref ya_leaveGift, .ref ya_leaveFrom, .ref ya_leaveTo, .ref ya_lateDay, .ref ya_lateOffice, .ref ya_lateBy, .ref ya_guests, .ref ya_who, .ref ya_used, .ref ya_lacks, .ref ya_candles, .ref ya_masses, .ref ya_owing, .ref ya_heldOn, .ref ya_waits, .ref ya_tape, .ref ya_text, .int 0, .int 0, .int 0, .int (-1), .int 0, .ref ya_statements, .ref ya_taken, .ref ya_sort, .ref ya_first, .ref ya_second, .int 0, .int 0]))]) (hS : va_S A s.heap H locs) (ls : Array Slot) (hl : lv_has ls 4 [(3, .int 0), (2, .ref yh), (1, .ref xh), (0, .ref b)]) : W p l e room_1 s m #[Value.ref b] below meth c H locs 90 16895 (lw_Z below #[Value.ref b] s) (F0 m 344 ls []) := by
  have hts : ∀ w ∈ wsL_law, w.before #[Value.ref b] s = true := fun w h => hts0 w (wsL_law_in w h)
  have S : CallFix p m c cL_law 4 s #[Value.ref b] wsL_law RL := ⟨hx, hb, hml, hown, hts⟩
  have kk0 : (0 : Int32).toInt = 0 := by decide
  have kk1 : (1 : Int32).toInt = 1 := by decide
  have kk2 : (2 : Int32).toInt = 2 := by decide
  have kk3 : (3 : Int32).toInt = 3 := by decide
  have kk4 : (4 : Int32).toInt = 4 := by decide
  have kk5 : (5 : Int32).toInt = 5 := by decide
  have kk6 : (6 : Int32).toInt = 6 := by decide
  have kk31 : (31 : Int32).toInt = 31 := by decide
  have kkm1 : (-1 : Int32).toInt = -1 := by decide
  refine lv_aload_n hx hb dL_law_344 rfl (lv_at hl 2 rfl) ?_
  refine lv_aload_n hx hb dL_law_345 rfl (lv_at hl 3 rfl) ?_
  refine lv_iload_n hx hb dL_law_346 rfl (lv_at hl 0 rfl) ?_
  refine lv_iconst (v := 1) hx hb dL_law_347 (by decide) ?_
  refine lv_iadd hx hb dL_law_348 ?_
  refine lv_topi (fun x_1 ex_1 => ?_)
  obtain rfl : x_1 = 1 := by rw [ex_1]; decide
  refine va_sld hx hb hX hbl hbA hS (t_in (by omega) (by omega)) dL_law_349 ?_
  refine lv_aload_n hx hb dL_law_350 rfl (lv_at hl 3 rfl) ?_
  refine lv_iload_n hx hb dL_law_351 rfl (lv_at hl 0 rfl) ?_
  refine lv_iconst (v := 2) hx hb dL_law_352 (by decide) ?_
  refine lv_iadd hx hb dL_law_353 ?_
  refine lv_topi (fun x_2 ex_2 => ?_)
  obtain rfl : x_2 = 2 := by rw [ex_2]; decide
  refine va_sld hx hb hX hbl hbA hS (t_in (by omega) (by omega)) dL_law_354 ?_
  have hPc := hP.sub (ws' := [(xh, .inr (10, [.ref xa_bells, .ref xa_feasts, .ref xa_tape, .ref xa_reader, .ref xa_rules, .ref xa_monks, .ref xa_duties, .ref xa_gifts, .ref xa_figures, .int 0, .int 0, .int 0, .int 0, .int (-1), .int 0])), (xa_bells, .inr (0, [.ref xba_days, .ref xba_offices, .ref xba_delays, .int 0])), (xba_days, .inl (cI, 100, .inl xbf_days)), (xba_offices, .inl (cI, 100, .inl xbf_offices)), (xba_delays, .inl (cI, 100, .inl xbf_delays))]) [0, 1, 2, 3, 4] rfl
  refine roV (As := [.int (xs (1 : Int32).toNatClampNeg), .int (xs (2 : Int32).toNatClampNeg)]) (rest := []) S (p_office  ) (cwV 2 hts gL_law_X11_office rfl rfl rfl (by decide +kernel) ⟨Nat.le_of_ble_eq_true rfl, Nat.le_of_ble_eq_true rfl⟩) hK hPc (va_recv hK.1 hPc (ci := 10) (q0 := 0) rfl rfl) rfl hl.1 rfl (Nat.le_of_ble_eq_true rfl) dL_law_355 ⟨Nat.le_of_ble_eq_true rfl, Nat.le_of_ble_eq_true rfl⟩ (fun r_a hw_a => ?_)
  have hw_a : ((0 ≤ (xs (1 : Int32).toNatClampNeg).toInt ∧ (xs (1 : Int32).toNatClampNeg).toInt ≤ 1094 ∧ 0 ≤ (xs (2 : Int32).toNatClampNeg).toInt ∧ (xs (2 : Int32).toNatClampNeg).toInt ≤ 7) → r_a = sunB (rem365 (xs (1 : Int32).toNatClampNeg)) (xs (2 : Int32).toNatClampNeg)) ∧ (¬ (0 ≤ (xs (1 : Int32).toNatClampNeg).toInt ∧ (xs (1 : Int32).toNatClampNeg).toInt ≤ 1094 ∧ 0 ≤ (xs (2 : Int32).toNatClampNeg).toInt ∧ (xs (2 : Int32).toNatClampNeg).toInt ≤ 7) → r_a.toInt = -1) := hw_a
  refine lv_aload_n hx hb dL_law_358 rfl (lv_at hl 1 rfl) ?_
  refine lv_aload_n hx hb dL_law_359 rfl (lv_at hl 3 rfl) ?_
  refine lv_iload_n hx hb dL_law_360 rfl (lv_at hl 0 rfl) ?_
  refine lv_iconst (v := 1) hx hb dL_law_361 (by decide) ?_
  refine lv_iadd hx hb dL_law_362 ?_
  refine lv_topi (fun x_3 ex_3 => ?_)
  obtain rfl : x_3 = 1 := by rw [ex_3]; decide
  refine va_sld hx hb hX hbl hbA hS (t_in (by omega) (by omega)) dL_law_363 ?_
  refine lv_aload_n hx hb dL_law_364 rfl (lv_at hl 3 rfl) ?_
  refine lv_iload_n hx hb dL_law_365 rfl (lv_at hl 0 rfl) ?_
  refine lv_iconst (v := 2) hx hb dL_law_366 (by decide) ?_
  refine lv_iadd hx hb dL_law_367 ?_
  refine lv_topi (fun x_4 ex_4 => ?_)
  obtain rfl : x_4 = 2 := by rw [ex_4]; decide
  refine va_sld hx hb hX hbl hbA hS (t_in (by omega) (by omega)) dL_law_368 ?_
  have hPc := hP.sub (ws' := [(yh, .inr (11, [.int 0, .int 0, .int 0, .int 0, .int 0, .int 0, .int 0, .int 0, .int 0, .ref ya_isPriest, .ref ya_bars, .ref ya_joined, .ref ya_turns, .ref ya_awayMonk, .ref ya_awayFrom, .ref ya_awayTo, .ref ya_feastDay, .ref ya_rank, .ref ya_isWeekly, .ref ya_isDouble, .ref ya_giftDay, .ref ya_giftFrom, .ref ya_owed, .ref ya_said, .ref ya_spared, .ref ya_leaveGift, .ref ya_leaveFrom, .ref ya_leaveTo, .ref ya_lateDay, .ref ya_lateOffice, .ref ya_lateBy, .ref ya_guests, .ref ya_who, .ref ya_used, .ref ya_lacks, .ref ya_candles, .ref ya_masses, .ref ya_owing, .ref ya_heldOn, .ref ya_waits, .ref ya_tape, .ref ya_text, .int 0, .int 0, .int 0, .int (-1), .int 0, .ref ya_statements, .ref ya_taken, .ref ya_sort, .ref ya_first, .ref ya_second, .int 0, .int 0]))]) [5] rfl
  refine roV (As := [.int (xs (1 : Int32).toNatClampNeg), .int (xs (2 : Int32).toNatClampNeg)]) (rest := [.int r_a]) S (q_office  ) (cwV 2 hts gL_law_X12_office rfl rfl rfl (by decide +kernel) ⟨Nat.le_of_ble_eq_true rfl, Nat.le_of_ble_eq_true rfl⟩) hK hPc (va_recv hK.1 hPc (ci := 11) (q0 := 0) rfl rfl) rfl hl.1 rfl (Nat.le_of_ble_eq_true rfl) dL_law_369 ⟨Nat.le_of_ble_eq_true rfl, Nat.le_of_ble_eq_true rfl⟩ (fun r_b_ hw_b_ => ?_)
  have hw_b_ : ((0 ≤ (xs (1 : Int32).toNatClampNeg).toInt ∧ (xs (1 : Int32).toNatClampNeg).toInt ≤ 1094 ∧ 0 ≤ (xs (2 : Int32).toNatClampNeg).toInt ∧ (xs (2 : Int32).toNatClampNeg).toInt ≤ 7) → r_b_ = sunB (rem365 (xs (1 : Int32).toNatClampNeg)) (xs (2 : Int32).toNatClampNeg)) ∧ (¬ (0 ≤ (xs (1 : Int32).toNatClampNeg).toInt ∧ (xs (1 : Int32).toNatClampNeg).toInt ≤ 1094 ∧ 0 ≤ (xs (2 : Int32).toNatClampNeg).toInt ∧ (xs (2 : Int32).toNatClampNeg).toInt ≤ 7) → r_b_.toInt = -1) := hw_b_
  refine lv_icmp_eq (tgt := 917) hx hb dL_law_372 (by decide) (fun cmp => ?_) (fun cmp => ?_)
  · have tcmp := t_eq cmp
    obtain ⟨x_6, ex_6⟩ : ∃ y : Int32, y = 0 + 6 := ⟨_, rfl⟩
    obtain rfl : x_6 = 6 := by rw [ex_6]; decide
    refine lv_iinc (v := 6) (lv' := [(3, .int 6), (2, .ref yh), (1, .ref xh), (0, .ref b)]) hx hb dL_law_917 hl (k := 0) rfl (by decide) (by decide) rfl (fun ls hl => ?_)
    refine lv_goto (tgt := 18) hx hb dL_law_920 (by decide) ?_
    refine lv_iload_n hx hb dL_law_18 rfl (lv_at hl 0 rfl) ?_
    refine lv_aload_n hx hb dL_law_19 rfl (lv_at hl 3 rfl) ?_
    refine va_slen hx hb hX hbl hbA hS dL_law_20 ?_
    refine lv_topi (fun x_7 ex_7 => ?_)
    have tx_7 : x_7.toInt = L := by rw [ex_7]; exact nI_toInt (by omega)
    refine lv_bipush (v := 6) hx hb dL_law_21 (by decide) ?_
    refine lv_isub hx hb dL_law_23 ?_
    refine lv_topi (fun x_8 ex_8 => ?_)
    first | have tx_8 := t_sub ex_8 (by omega) (by omega) | skip
    refine lv_icmp_gt (tgt := 923) hx hb dL_law_24 (by decide) (fun c_9 => ?_) (fun c_9 => ?_)
    · have tc_9 := t_lt c_9
      refine lv_iconst (v := 1) hx hb dL_law_923 (by decide) ?_
      refine va_forget (fun q hq => hAs _ (hS.2.2 q hq)) ?_
      refine W.widen (k := 600000) (n := 7302250) (Nat.le_of_ble_eq_true rfl) (Nat.le_of_ble_eq_true rfl) ?_
      exact lw_ret hx hb hr hlocks dL_law_924
    · have tc_9 := t_nlt c_9
      exfalso; omega
  · have tcmp := t_neq cmp
    exact absurd (same2 hw_a hw_b_) cmp

set_option maxHeartbeats 8000000 in
set_option maxRecDepth 100000 in
theorem law_case7 {p : Program} {e : Env} {s : State} {m : MethodId} {below : List Frame} {meth : Method} {c : Code} {l : Launch} {b L : Nat} {xs : Nat → Int32} {D : va_G} {cI cZ cB : ClassId} {A : Nat → Prop} {xh xa_bells xa_feasts xa_tape xa_reader xa_rules xa_monks xa_duties xa_gifts xa_figures xba_days xba_offices xba_delays yh ya_isPriest ya_bars ya_joined ya_turns ya_awayMonk ya_awayFrom ya_awayTo ya_feastDay ya_rank ya_isWeekly ya_isDouble ya_giftDay ya_giftFrom ya_owed ya_said ya_spared ya_leaveGift ya_leaveFrom ya_leaveTo ya_lateDay ya_lateOffice ya_lateBy ya_guests ya_who ya_used ya_lacks ya_candles ya_masses ya_owing ya_heldOn ya_waits ya_tape ya_text ya_statements ya_taken ya_sort ya_first ya_second : Nat} {xbf_days xbf_offices xbf_delays yf_lateDay yf_lateOffice yf_lateBy : Nat → Int32}  (hx : p.tables.exec = Jvm.exec) (hb : c.code = cL_law) (hr : meth.sig.returnType = ret) (hml : c.maxLocals = 4) (hown : s.vm.findClass RL = some m.cls) (hts0 : ∀ w ∈ lw_tbl, w.before #[Value.ref b] s = true) (hX : va_X b L xs s s.heap) (hbl : b < s.heap.size) (hlocks : meth.locks = false) (hK : KK D cI cZ cB s) (hA : ∀ q : Nat, s.heap.size ≤ q → A q) (hAs : ∀ q : Nat, A q → s.heap.size ≤ q) (hbA : ¬ A b) (hL : L ≤ 6) (h6 : 6 ≤ L) {H : Heap} {locs : List Loc} (hP : va_P D vwCl [(xh, .inr (10, [.ref xa_bells, .ref xa_feasts, .ref xa_tape, .ref xa_reader, .ref xa_rules, .ref xa_monks, .ref xa_duties, .ref xa_gifts, .ref xa_figures, .int 0, .int 0, .int 0, .int 0, .int (-1), .int 0])), (xa_bells, .inr (0, [.ref xba_days, .ref xba_offices, .ref xba_delays, .int 0])), (xba_days, .inl (cI, 100, .inl xbf_days)), (xba_offices, .inl (cI, 100, .inl xbf_offices)), (xba_delays, .inl (cI, 100, .inl xbf_delays)), (yh, .inr (11, [.int 0, .int 0, .int 0, .int 0, .int 0, .int 0, .int 0, .int 0, .int 0, .ref ya_isPriest, .ref ya_bars, .ref ya_joined, .ref ya_turns, .ref ya_awayMonk, .ref ya_awayFrom, .ref ya_awayTo, .ref ya_feastDay, .ref ya_rank, .ref ya_isWeekly, .ref ya_isDouble, .ref ya_giftDay, .ref ya_giftFrom, .ref ya_owed, .ref ya_said, .ref ya_spared, .ref ya_leaveGift, .ref ya_leaveFrom, .ref ya_leaveTo, .ref ya_lateDay, .ref ya_lateOffice, .ref ya_lateBy, .ref ya_guests, .ref ya_who, .ref ya_used, .ref ya_lacks, .ref ya_candles, .ref ya_masses, .ref ya_owing, .ref ya_heldOn, .ref ya_waits, .ref ya_tape, .ref ya_text, .int 0, .int 0, .int 0, .int (-1), .int 0, .ref ya_statements, .ref ya_taken, .ref ya_sort, .ref ya_first, .ref ya_second, .int 0, .int 0])), (ya_lateDay, .inl (cI, 100, .inl yf_lateDay)), (ya_lateOffice, .inl (cI, 100, .inl yf_lateOffice)), (ya_lateBy, .inl (cI, 100, .inl yf_lateBy))] H) (hD : va_D A [(xh, .inr (10, [.ref xa_bells, .ref xa_feasts, .ref xa_tape, .ref xa_reader, .ref xa_rules, .ref xa_monks, .ref xa_duties, .ref xa_gifts, .ref xa_figures, .int 0, .int 0, .int 0, .int 0, .int (-1), .int 0])), (xa_bells, .inr (0, [.ref xba_days, .ref xba_offices, .ref xba_delays, .int 0])), (xba_days, .inl (cI, 100, .inl xbf_days)), (xba_offices, .inl (cI, 100, .inl xbf_offices)), (xba_delays, .inl (cI, 100, .inl xbf_delays)), (yh, .inr (11, [.int 0, .int 0, .int 0, .int 0, .int 0, .int 0, .int 0, .int 0, .int 0, .ref ya_isPriest, .ref ya_bars, .ref ya_joined, .ref ya_turns, .ref ya_awayMonk, .ref ya_awayFrom, .ref ya_awayTo, .ref ya_feastDay, .ref ya_rank, .ref ya_isWeekly, .ref ya_isDouble, .ref ya_giftDay, .ref ya_giftFrom, .ref ya_owed, .ref ya_said, .ref ya_spared, .ref ya_leaveGift, .ref ya_leaveFrom, .ref ya_leaveTo, .ref ya_lateDay, .ref ya_lateOffice, .ref ya_lateBy, .ref ya_guests, .ref ya_who, .ref ya_used, .ref ya_lacks, .ref ya_candles, .ref ya_masses, .ref ya_owing, .ref ya_heldOn, .ref ya_waits, .ref ya_tape, .ref ya_text, .int 0, .int 0, .int 0, .int (-1), .int 0, .ref ya_statements, .ref ya_taken, .ref ya_sort, .ref ya_first, .ref ya_second, .int 0, .int 0])), (ya_lateDay, .inl (cI, 100, .inl yf_lateDay)), (ya_lateOffice, .inl (cI, 100, .inl yf_lateOffice)), (ya_lateBy, .inl (cI, 100, .inl yf_lateBy))]) (hS : va_S A s.heap H locs) (ls : Array Slot) (hl : lv_has ls 4 [(3, .int 0), (2, .ref yh), (1, .ref xh), (0, .ref b)]) : W p l e room_1 s m #[Value.ref b] below meth c H locs 90 16895 (lw_Z below #[Value.ref b] s) (F0 m 377 ls []) := by
  have hts : ∀ w ∈ wsL_law, w.before #[Value.ref b] s = true := fun w h => hts0 w (wsL_law_in w h)
  have S : CallFix p m c cL_law 4 s #[Value.ref b] wsL_law RL := ⟨hx, hb, hml, hown, hts⟩
  have kk0 : (0 : Int32).toInt = 0 := by decide
  have kk1 : (1 : Int32).toInt = 1 := by decide
  have kk2 : (2 : Int32).toInt = 2 := by decide
  have kk3 : (3 : Int32).toInt = 3 := by decide
  have kk4 : (4 : Int32).toInt = 4 := by decide
  have kk5 : (5 : Int32).toInt = 5 := by decide
  have kk6 : (6 : Int32).toInt = 6 := by decide
  have kk31 : (31 : Int32).toInt = 31 := by decide
  have kkm1 : (-1 : Int32).toInt = -1 := by decide
  refine lv_aload_n hx hb dL_law_377 rfl (lv_at hl 2 rfl) ?_
  refine lv_aload_n hx hb dL_law_378 rfl (lv_at hl 3 rfl) ?_
  refine lv_iload_n hx hb dL_law_379 rfl (lv_at hl 0 rfl) ?_
  refine lv_iconst (v := 1) hx hb dL_law_380 (by decide) ?_
  refine lv_iadd hx hb dL_law_381 ?_
  refine lv_topi (fun x_1 ex_1 => ?_)
  obtain rfl : x_1 = 1 := by rw [ex_1]; decide
  refine va_sld hx hb hX hbl hbA hS (t_in (by omega) (by omega)) dL_law_382 ?_
  refine lv_aload_n hx hb dL_law_383 rfl (lv_at hl 3 rfl) ?_
  refine lv_iload_n hx hb dL_law_384 rfl (lv_at hl 0 rfl) ?_
  refine lv_iconst (v := 2) hx hb dL_law_385 (by decide) ?_
  refine lv_iadd hx hb dL_law_386 ?_
  refine lv_topi (fun x_2 ex_2 => ?_)
  obtain rfl : x_2 = 2 := by rw [ex_2]; decide
  refine va_sld hx hb hX hbl hbA hS (t_in (by omega) (by omega)) dL_law_387 ?_
  refine lv_aload_n hx hb dL_law_388 rfl (lv_at hl 3 rfl) ?_
  refine lv_iload_n hx hb dL_law_389 rfl (lv_at hl 0 rfl) ?_
  refine lv_iconst (v := 3) hx hb dL_law_390 (by decide) ?_
  refine lv_iadd hx hb dL_law_391 ?_
  refine lv_topi (fun x_3 ex_3 => ?_)
  obtain rfl : x_3 = 3 := by rw [ex_3]; decide
  refine va_sld hx hb hX hbl hbA hS (t_in (by omega) (by omega)) dL_law_392 ?_
  have hPc := hP.sub (ws' := [(xh, .inr (10, [.ref xa_bells, .ref xa_feasts, .ref xa_tape, .ref xa_reader, .ref xa_rules, .ref xa_monks, .ref xa_duties, .ref xa_gifts, .ref xa_figures, .int 0, .int 0, .int 0, .int 0, .int (-1), .int 0])), (xa_bells, .inr (0, [.ref xba_days, .ref xba_offices, .ref xba_delays, .int 0])), (xba_days, .inl (cI, 100, .inl xbf_days)), (xba_offices, .inl (cI, 100, .inl xbf_offices)), (xba_delays, .inl (cI, 100, .inl xbf_delays))]) [0, 1, 2, 3, 4] rfl
  refine rwV (As := [.int (xs (1 : Int32).toNatClampNeg), .int (xs (2 : Int32).toNatClampNeg), .int (xs (3 : Int32).toNatClampNeg)]) (rest := []) (wc := [(xh, .inr (10, [.ref xa_bells, .ref xa_feasts, .ref xa_tape, .ref xa_reader, .ref xa_rules, .ref xa_monks, .ref xa_duties, .ref xa_gifts, .ref xa_figures, .int 0, .int 0, .int 0, .int 0, .int (-1), .int 0])), (xa_bells, .inr (0, [.ref xba_days, .ref xba_offices, .ref xba_delays, .int 0])), (xba_days, .inl (cI, 100, .inl xbf_days)), (xba_offices, .inl (cI, 100, .inl xbf_offices)), (xba_delays, .inl (cI, 100, .inl xbf_delays))]) (wr := [(yh, .inr (11, [.int 0, .int 0, .int 0, .int 0, .int 0, .int 0, .int 0, .int 0, .int 0, .ref ya_isPriest, .ref ya_bars, .ref ya_joined, .ref ya_turns, .ref ya_awayMonk, .ref ya_awayFrom, .ref ya_awayTo, .ref ya_feastDay, .ref ya_rank, .ref ya_isWeekly, .ref ya_isDouble, .ref ya_giftDay, .ref ya_giftFrom, .ref ya_owed, .ref ya_said, .ref ya_spared, .ref ya_leaveGift, .ref ya_leaveFrom, .ref ya_leaveTo, .ref ya_lateDay, .ref ya_lateOffice, .ref ya_lateBy, .ref ya_guests, .ref ya_who, .ref ya_used, .ref ya_lacks, .ref ya_candles, .ref ya_masses, .ref ya_owing, .ref ya_heldOn, .ref ya_waits, .ref ya_tape, .ref ya_text, .int 0, .int 0, .int 0, .int (-1), .int 0, .ref ya_statements, .ref ya_taken, .ref ya_sort, .ref ya_first, .ref ya_second, .int 0, .int 0])), (ya_lateDay, .inl (cI, 100, .inl yf_lateDay)), (ya_lateOffice, .inl (cI, 100, .inl yf_lateOffice)), (ya_lateBy, .inl (cI, 100, .inl yf_lateBy))]) S (p_late  ) (cwV 3 hts gL_law_X11_late rfl rfl rfl (by decide +kernel) ⟨Nat.le_of_ble_eq_true rfl, Nat.le_of_ble_eq_true rfl⟩) hK hP hD hS hA [0, 1, 2, 3, 4] [5, 6, 7, 8] rfl rfl (by decide) (by decide) (by decide) (va_recv hK.1 hPc (ci := 10) (q0 := 0) rfl rfl) rfl hl.1 rfl (Nat.le_of_ble_eq_true rfl) dL_law_393 ⟨Nat.le_of_ble_eq_true rfl, Nat.le_of_ble_eq_true rfl⟩ (fun r_a u_a H locs hw_a hP hD hS => ?_)
  obtain ⟨n1_a, f1_a, f2_a, f3_a⟩ := u_a
  have hw_a : ((0 ≤ (xs (1 : Int32).toNatClampNeg).toInt ∧ (xs (1 : Int32).toNatClampNeg).toInt ≤ 1094 ∧ 0 ≤ (xs (2 : Int32).toNatClampNeg).toInt ∧ (xs (2 : Int32).toNatClampNeg).toInt ≤ 7 ∧ 1 ≤ (xs (3 : Int32).toNatClampNeg).toInt ∧ (xs (3 : Int32).toNatClampNeg).toInt ≤ 120 ∧ (((xs (2 : Int32).toNatClampNeg).toInt = 7 ∧ (sunB (rem365 (xs (1 : Int32).toNatClampNeg)) (xs (2 : Int32).toNatClampNeg) + (xs (3 : Int32).toNatClampNeg)).toInt < 1410) ∨ ((xs (2 : Int32).toNatClampNeg).toInt ≠ 7 ∧ (sunB (rem365 (xs (1 : Int32).toNatClampNeg)) (xs (2 : Int32).toNatClampNeg) + (xs (3 : Int32).toNatClampNeg)).toInt < (sunB (rem365 (xs (1 : Int32).toNatClampNeg)) ((xs (2 : Int32).toNatClampNeg) + 1)).toInt)) ∧ ((xs (2 : Int32).toNatClampNeg).toInt = 0 ∨ (sunB (rem365 (xs (1 : Int32).toNatClampNeg)) ((xs (2 : Int32).toNatClampNeg) - 1)).toInt < (sunB (rem365 (xs (1 : Int32).toNatClampNeg)) (xs (2 : Int32).toNatClampNeg) + (xs (3 : Int32).toNatClampNeg)).toInt)) → r_a = sunB (rem365 (xs (1 : Int32).toNatClampNeg)) (xs (2 : Int32).toNatClampNeg) + (xs (3 : Int32).toNatClampNeg)) ∧ (¬ (0 ≤ (xs (1 : Int32).toNatClampNeg).toInt ∧ (xs (1 : Int32).toNatClampNeg).toInt ≤ 1094 ∧ 0 ≤ (xs (2 : Int32).toNatClampNeg).toInt ∧ (xs (2 : Int32).toNatClampNeg).toInt ≤ 7 ∧ 1 ≤ (xs (3 : Int32).toNatClampNeg).toInt ∧ (xs (3 : Int32).toNatClampNeg).toInt ≤ 120 ∧ (((xs (2 : Int32).toNatClampNeg).toInt = 7 ∧ (sunB (rem365 (xs (1 : Int32).toNatClampNeg)) (xs (2 : Int32).toNatClampNeg) + (xs (3 : Int32).toNatClampNeg)).toInt < 1410) ∨ ((xs (2 : Int32).toNatClampNeg).toInt ≠ 7 ∧ (sunB (rem365 (xs (1 : Int32).toNatClampNeg)) (xs (2 : Int32).toNatClampNeg) + (xs (3 : Int32).toNatClampNeg)).toInt < (sunB (rem365 (xs (1 : Int32).toNatClampNeg)) ((xs (2 : Int32).toNatClampNeg) + 1)).toInt)) ∧ ((xs (2 : Int32).toNatClampNeg).toInt = 0 ∨ (sunB (rem365 (xs (1 : Int32).toNatClampNeg)) ((xs (2 : Int32).toNatClampNeg) - 1)).toInt < (sunB (rem365 (xs (1 : Int32).toNatClampNeg)) (xs (2 : Int32).toNatClampNeg) + (xs (3 : Int32).toNatClampNeg)).toInt)) → r_a.toInt = -1) := hw_a
  have hP : va_P D vwCl [(yh, .inr (11, [.int 0, .int 0, .int 0, .int 0, .int 0, .int 0, .int 0, .int 0, .int 0, .ref ya_isPriest, .ref ya_bars, .ref ya_joined, .ref ya_turns, .ref ya_awayMonk, .ref ya_awayFrom, .ref ya_awayTo, .ref ya_feastDay, .ref ya_rank, .ref ya_isWeekly, .ref ya_isDouble, .ref ya_giftDay, .ref ya_giftFrom, .ref ya_owed, .ref ya_said, .ref ya_spared, .ref ya_leaveGift, .ref ya_leaveFrom, .ref ya_leaveTo, .ref ya_lateDay, .ref ya_lateOffice, .ref ya_lateBy, .ref ya_guests, .ref ya_who, .ref ya_used, .ref ya_lacks, .ref ya_candles, .ref ya_masses, .ref ya_owing, .ref ya_heldOn, .ref ya_waits, .ref ya_tape, .ref ya_text, .int 0, .int 0, .int 0, .int (-1), .int 0, .ref ya_statements, .ref ya_taken, .ref ya_sort, .ref ya_first, .ref ya_second, .int 0, .int 0])), (ya_lateDay, .inl (cI, 100, .inl yf_lateDay)), (ya_lateOffice, .inl (cI, 100, .inl yf_lateOffice)), (ya_lateBy, .inl (cI, 100, .inl yf_lateBy)), (xh, .inr (10, [.ref xa_bells, .ref xa_feasts, .ref xa_tape, .ref xa_reader, .ref xa_rules, .ref xa_monks, .ref xa_duties, .ref xa_gifts, .ref xa_figures, .int 0, .int 0, .int 0, .int 0, .int (-1), .int 0])), (xa_bells, .inr (0, [.ref xba_days, .ref xba_offices, .ref xba_delays, .int n1_a])), (xba_days, .inl (cI, 100, .inl f1_a)), (xba_offices, .inl (cI, 100, .inl f2_a)), (xba_delays, .inl (cI, 100, .inl f3_a))] H := hP
  have hD : va_D A [(yh, .inr (11, [.int 0, .int 0, .int 0, .int 0, .int 0, .int 0, .int 0, .int 0, .int 0, .ref ya_isPriest, .ref ya_bars, .ref ya_joined, .ref ya_turns, .ref ya_awayMonk, .ref ya_awayFrom, .ref ya_awayTo, .ref ya_feastDay, .ref ya_rank, .ref ya_isWeekly, .ref ya_isDouble, .ref ya_giftDay, .ref ya_giftFrom, .ref ya_owed, .ref ya_said, .ref ya_spared, .ref ya_leaveGift, .ref ya_leaveFrom, .ref ya_leaveTo, .ref ya_lateDay, .ref ya_lateOffice, .ref ya_lateBy, .ref ya_guests, .ref ya_who, .ref ya_used, .ref ya_lacks, .ref ya_candles, .ref ya_masses, .ref ya_owing, .ref ya_heldOn, .ref ya_waits, .ref ya_tape, .ref ya_text, .int 0, .int 0, .int 0, .int (-1), .int 0, .ref ya_statements, .ref ya_taken, .ref ya_sort, .ref ya_first, .ref ya_second, .int 0, .int 0])), (ya_lateDay, .inl (cI, 100, .inl yf_lateDay)), (ya_lateOffice, .inl (cI, 100, .inl yf_lateOffice)), (ya_lateBy, .inl (cI, 100, .inl yf_lateBy)), (xh, .inr (10, [.ref xa_bells, .ref xa_feasts, .ref xa_tape, .ref xa_reader, .ref xa_rules, .ref xa_monks, .ref xa_duties, .ref xa_gifts, .ref xa_figures, .int 0, .int 0, .int 0, .int 0, .int (-1), .int 0])), (xa_bells, .inr (0, [.ref xba_days, .ref xba_offices, .ref xba_delays, .int n1_a])), (xba_days, .inl (cI, 100, .inl f1_a)), (xba_offices, .inl (cI, 100, .inl f2_a)), (xba_delays, .inl (cI, 100, .inl f3_a))] := hD
  refine lv_aload_n hx hb dL_law_396 rfl (lv_at hl 1 rfl) ?_
  refine lv_aload_n hx hb dL_law_397 rfl (lv_at hl 3 rfl) ?_
  refine lv_iload_n hx hb dL_law_398 rfl (lv_at hl 0 rfl) ?_
  refine lv_iconst (v := 1) hx hb dL_law_399 (by decide) ?_
  refine lv_iadd hx hb dL_law_400 ?_
  refine lv_topi (fun x_4 ex_4 => ?_)
  obtain rfl : x_4 = 1 := by rw [ex_4]; decide
  refine va_sld hx hb hX hbl hbA hS (t_in (by omega) (by omega)) dL_law_401 ?_
  refine lv_aload_n hx hb dL_law_402 rfl (lv_at hl 3 rfl) ?_
  refine lv_iload_n hx hb dL_law_403 rfl (lv_at hl 0 rfl) ?_
  refine lv_iconst (v := 2) hx hb dL_law_404 (by decide) ?_
  refine lv_iadd hx hb dL_law_405 ?_
  refine lv_topi (fun x_5 ex_5 => ?_)
  obtain rfl : x_5 = 2 := by rw [ex_5]; decide
  refine va_sld hx hb hX hbl hbA hS (t_in (by omega) (by omega)) dL_law_406 ?_
  refine lv_aload_n hx hb dL_law_407 rfl (lv_at hl 3 rfl) ?_
  refine lv_iload_n hx hb dL_law_408 rfl (lv_at hl 0 rfl) ?_
  refine lv_iconst (v := 3) hx hb dL_law_409 (by decide) ?_
  refine lv_iadd hx hb dL_law_410 ?_
  refine lv_topi (fun x_6 ex_6 => ?_)
  obtain rfl : x_6 = 3 := by rw [ex_6]; decide
  refine va_sld hx hb hX hbl hbA hS (t_in (by omega) (by omega)) dL_law_411 ?_
  have hPc := hP.sub (ws' := [(yh, .inr (11, [.int 0, .int 0, .int 0, .int 0, .int 0, .int 0, .int 0, .int 0, .int 0, .ref ya_isPriest, .ref ya_bars, .ref ya_joined, .ref ya_turns, .ref ya_awayMonk, .ref ya_awayFrom, .ref ya_awayTo, .ref ya_feastDay, .ref ya_rank, .ref ya_isWeekly, .ref ya_isDouble, .ref ya_giftDay, .ref ya_giftFrom, .ref ya_owed, .ref ya_said, .ref ya_spared, .ref ya_leaveGift, .ref ya_leaveFrom, .ref ya_leaveTo, .ref ya_lateDay, .ref ya_lateOffice, .ref ya_lateBy, .ref ya_guests, .ref ya_who, .ref ya_used, .ref ya_lacks, .ref ya_candles, .ref ya_masses, .ref ya_owing, .ref ya_heldOn, .ref ya_waits, .ref ya_tape, .ref ya_text, .int 0, .int 0, .int 0, .int (-1), .int 0, .ref ya_statements, .ref ya_taken, .ref ya_sort, .ref ya_first, .ref ya_second, .int 0, .int 0])), (ya_lateDay, .inl (cI, 100, .inl yf_lateDay)), (ya_lateOffice, .inl (cI, 100, .inl yf_lateOffice)), (ya_lateBy, .inl (cI, 100, .inl yf_lateBy))]) [0, 1, 2, 3] rfl
  refine rwV (As := [.int (xs (1 : Int32).toNatClampNeg), .int (xs (2 : Int32).toNatClampNeg), .int (xs (3 : Int32).toNatClampNeg)]) (rest := [.int r_a]) (wc := [(yh, .inr (11, [.int 0, .int 0, .int 0, .int 0, .int 0, .int 0, .int 0, .int 0, .int 0, .ref ya_isPriest, .ref ya_bars, .ref ya_joined, .ref ya_turns, .ref ya_awayMonk, .ref ya_awayFrom, .ref ya_awayTo, .ref ya_feastDay, .ref ya_rank, .ref ya_isWeekly, .ref ya_isDouble, .ref ya_giftDay, .ref ya_giftFrom, .ref ya_owed, .ref ya_said, .ref ya_spared, .ref ya_leaveGift, .ref ya_leaveFrom, .ref ya_leaveTo, .ref ya_lateDay, .ref ya_lateOffice, .ref ya_lateBy, .ref ya_guests, .ref ya_who, .ref ya_used, .ref ya_lacks, .ref ya_candles, .ref ya_masses, .ref ya_owing, .ref ya_heldOn, .ref ya_waits, .ref ya_tape, .ref ya_text, .int 0, .int 0, .int 0, .int (-1), .int 0, .ref ya_statements, .ref ya_taken, .ref ya_sort, .ref ya_first, .ref ya_second, .int 0, .int 0])), (ya_lateDay, .inl (cI, 100, .inl yf_lateDay)), (ya_lateOffice, .inl (cI, 100, .inl yf_lateOffice)), (ya_lateBy, .inl (cI, 100, .inl yf_lateBy))]) (wr := [(xh, .inr (10, [.ref xa_bells, .ref xa_feasts, .ref xa_tape, .ref xa_reader, .ref xa_rules, .ref xa_monks, .ref xa_duties, .ref xa_gifts, .ref xa_figures, .int 0, .int 0, .int 0, .int 0, .int (-1), .int 0])), (xa_bells, .inr (0, [.ref xba_days, .ref xba_offices, .ref xba_delays, .int n1_a])), (xba_days, .inl (cI, 100, .inl f1_a)), (xba_offices, .inl (cI, 100, .inl f2_a)), (xba_delays, .inl (cI, 100, .inl f3_a))]) S (q_late  ) (cwV 3 hts gL_law_X12_late rfl rfl rfl (by decide +kernel) ⟨Nat.le_of_ble_eq_true rfl, Nat.le_of_ble_eq_true rfl⟩) hK hP hD hS hA [0, 1, 2, 3] [4, 5, 6, 7, 8] rfl rfl (by decide) (by decide) (by decide) (va_recv hK.1 hPc (ci := 11) (q0 := 0) rfl rfl) rfl hl.1 rfl (Nat.le_of_ble_eq_true rfl) dL_law_412 ⟨Nat.le_of_ble_eq_true rfl, Nat.le_of_ble_eq_true rfl⟩ (fun r_b_ u_b_ H locs hw_b_ hP hD hS => ?_)
  obtain ⟨n1_b_, f1_b_, f2_b_, f3_b_⟩ := u_b_
  have hw_b_ : ((0 ≤ (xs (1 : Int32).toNatClampNeg).toInt ∧ (xs (1 : Int32).toNatClampNeg).toInt ≤ 1094 ∧ 0 ≤ (xs (2 : Int32).toNatClampNeg).toInt ∧ (xs (2 : Int32).toNatClampNeg).toInt ≤ 7 ∧ 1 ≤ (xs (3 : Int32).toNatClampNeg).toInt ∧ (xs (3 : Int32).toNatClampNeg).toInt ≤ 120 ∧ (((xs (2 : Int32).toNatClampNeg).toInt = 7 ∧ (sunB (rem365 (xs (1 : Int32).toNatClampNeg)) (xs (2 : Int32).toNatClampNeg) + (xs (3 : Int32).toNatClampNeg)).toInt < 1410) ∨ ((xs (2 : Int32).toNatClampNeg).toInt ≠ 7 ∧ (sunB (rem365 (xs (1 : Int32).toNatClampNeg)) (xs (2 : Int32).toNatClampNeg) + (xs (3 : Int32).toNatClampNeg)).toInt < (sunB (rem365 (xs (1 : Int32).toNatClampNeg)) ((xs (2 : Int32).toNatClampNeg) + 1)).toInt)) ∧ ((xs (2 : Int32).toNatClampNeg).toInt = 0 ∨ (sunB (rem365 (xs (1 : Int32).toNatClampNeg)) ((xs (2 : Int32).toNatClampNeg) - 1)).toInt < (sunB (rem365 (xs (1 : Int32).toNatClampNeg)) (xs (2 : Int32).toNatClampNeg) + (xs (3 : Int32).toNatClampNeg)).toInt)) → r_b_ = sunB (rem365 (xs (1 : Int32).toNatClampNeg)) (xs (2 : Int32).toNatClampNeg) + (xs (3 : Int32).toNatClampNeg)) ∧ (¬ (0 ≤ (xs (1 : Int32).toNatClampNeg).toInt ∧ (xs (1 : Int32).toNatClampNeg).toInt ≤ 1094 ∧ 0 ≤ (xs (2 : Int32).toNatClampNeg).toInt ∧ (xs (2 : Int32).toNatClampNeg).toInt ≤ 7 ∧ 1 ≤ (xs (3 : Int32).toNatClampNeg).toInt ∧ (xs (3 : Int32).toNatClampNeg).toInt ≤ 120 ∧ (((xs (2 : Int32).toNatClampNeg).toInt = 7 ∧ (sunB (rem365 (xs (1 : Int32).toNatClampNeg)) (xs (2 : Int32).toNatClampNeg) + (xs (3 : Int32).toNatClampNeg)).toInt < 1410) ∨ ((xs (2 : Int32).toNatClampNeg).toInt ≠ 7 ∧ (sunB (rem365 (xs (1 : Int32).toNatClampNeg)) (xs (2 : Int32).toNatClampNeg) + (xs (3 : Int32).toNatClampNeg)).toInt < (sunB (rem365 (xs (1 : Int32).toNatClampNeg)) ((xs (2 : Int32).toNatClampNeg) + 1)).toInt)) ∧ ((xs (2 : Int32).toNatClampNeg).toInt = 0 ∨ (sunB (rem365 (xs (1 : Int32).toNatClampNeg)) ((xs (2 : Int32).toNatClampNeg) - 1)).toInt < (sunB (rem365 (xs (1 : Int32).toNatClampNeg)) (xs (2 : Int32).toNatClampNeg) + (xs (3 : Int32).toNatClampNeg)).toInt)) → r_b_.toInt = -1) := hw_b_
  have hP : va_P D vwCl [(xh, .inr (10, [.ref xa_bells, .ref xa_feasts, .ref xa_tape, .ref xa_reader, .ref xa_rules, .ref xa_monks, .ref xa_duties, .ref xa_gifts, .ref xa_figures, .int 0, .int 0, .int 0, .int 0, .int (-1), .int 0])), (xa_bells, .inr (0, [.ref xba_days, .ref xba_offices, .ref xba_delays, .int n1_a])), (xba_days, .inl (cI, 100, .inl f1_a)), (xba_offices, .inl (cI, 100, .inl f2_a)), (xba_delays, .inl (cI, 100, .inl f3_a)), (yh, .inr (11, [.int 0, .int 0, .int 0, .int 0, .int 0, .int 0, .int n1_b_, .int 0, .int 0, .ref ya_isPriest, .ref ya_bars, .ref ya_joined, .ref ya_turns, .ref ya_awayMonk, .ref ya_awayFrom, .ref ya_awayTo, .ref ya_feastDay, .ref ya_rank, .ref ya_isWeekly, .ref ya_isDouble, .ref ya_giftDay, .ref ya_giftFrom, .ref ya_owed, .ref ya_said, .ref ya_spared, .ref ya_leaveGift, .ref ya_leaveFrom, .ref ya_leaveTo, .ref ya_lateDay, .ref ya_lateOffice, .ref ya_lateBy, .ref ya_guests, .ref ya_who, .ref ya_used, .ref ya_lacks, .ref ya_candles, .ref ya_masses, .ref ya_owing, .ref ya_heldOn, .ref ya_waits, .ref ya_tape, .ref ya_text, .int 0, .int 0, .int 0, .int (-1), .int 0, .ref ya_statements, .ref ya_taken, .ref ya_sort, .ref ya_first, .ref ya_second, .int 0, .int 0])), (ya_lateDay, .inl (cI, 100, .inl f1_b_)), (ya_lateOffice, .inl (cI, 100, .inl f2_b_)), (ya_lateBy, .inl (cI, 100, .inl f3_b_))] H := hP
  have hD : va_D A [(xh, .inr (10, [.ref xa_bells, .ref xa_feasts, .ref xa_tape, .ref xa_reader, .ref xa_rules, .ref xa_monks, .ref xa_duties, .ref xa_gifts, .ref xa_figures, .int 0, .int 0, .int 0, .int 0, .int (-1), .int 0])), (xa_bells, .inr (0, [.ref xba_days, .ref xba_offices, .ref xba_delays, .int n1_a])), (xba_days, .inl (cI, 100, .inl f1_a)), (xba_offices, .inl (cI, 100, .inl f2_a)), (xba_delays, .inl (cI, 100, .inl f3_a)), (yh, .inr (11, [.int 0, .int 0, .int 0, .int 0, .int 0, .int 0, .int n1_b_, .int 0, .int 0, .ref ya_isPriest, .ref ya_bars, .ref ya_joined, .ref ya_turns, .ref ya_awayMonk, .ref ya_awayFrom, .ref ya_awayTo, .ref ya_feastDay, .ref ya_rank, .ref ya_isWeekly, .ref ya_isDouble, .ref ya_giftDay, .ref ya_giftFrom, .ref ya_owed, .ref ya_said, .ref ya_spared, .ref ya_leaveGift, .ref ya_leaveFrom, .ref ya_leaveTo, .ref ya_lateDay, .ref ya_lateOffice, .ref ya_lateBy, .ref ya_guests, .ref ya_who, .ref ya_used, .ref ya_lacks, .ref ya_candles, .ref ya_masses, .ref ya_owing, .ref ya_heldOn, .ref ya_waits, .ref ya_tape, .ref ya_text, .int 0, .int 0, .int 0, .int (-1), .int 0, .ref ya_statements, .ref ya_taken, .ref ya_sort, .ref ya_first, .ref ya_second, .int 0, .int 0])), (ya_lateDay, .inl (cI, 100, .inl f1_b_)), (ya_lateOffice, .inl (cI, 100, .inl f2_b_)), (ya_lateBy, .inl (cI, 100, .inl f3_b_))] := hD
  refine lv_icmp_eq (tgt := 917) hx hb dL_law_415 (by decide) (fun cmp => ?_) (fun cmp => ?_)
  · have tcmp := t_eq cmp
    obtain ⟨x_8, ex_8⟩ : ∃ y : Int32, y = 0 + 6 := ⟨_, rfl⟩
    obtain rfl : x_8 = 6 := by rw [ex_8]; decide
    refine lv_iinc (v := 6) (lv' := [(3, .int 6), (2, .ref yh), (1, .ref xh), (0, .ref b)]) hx hb dL_law_917 hl (k := 0) rfl (by decide) (by decide) rfl (fun ls hl => ?_)
    refine lv_goto (tgt := 18) hx hb dL_law_920 (by decide) ?_
    refine lv_iload_n hx hb dL_law_18 rfl (lv_at hl 0 rfl) ?_
    refine lv_aload_n hx hb dL_law_19 rfl (lv_at hl 3 rfl) ?_
    refine va_slen hx hb hX hbl hbA hS dL_law_20 ?_
    refine lv_topi (fun x_9 ex_9 => ?_)
    have tx_9 : x_9.toInt = L := by rw [ex_9]; exact nI_toInt (by omega)
    refine lv_bipush (v := 6) hx hb dL_law_21 (by decide) ?_
    refine lv_isub hx hb dL_law_23 ?_
    refine lv_topi (fun x_10 ex_10 => ?_)
    first | have tx_10 := t_sub ex_10 (by omega) (by omega) | skip
    refine lv_icmp_gt (tgt := 923) hx hb dL_law_24 (by decide) (fun c_11 => ?_) (fun c_11 => ?_)
    · have tc_11 := t_lt c_11
      refine lv_iconst (v := 1) hx hb dL_law_923 (by decide) ?_
      refine va_forget (fun q hq => hAs _ (hS.2.2 q hq)) ?_
      refine W.widen (k := 600000) (n := 7302250) (Nat.le_of_ble_eq_true rfl) (Nat.le_of_ble_eq_true rfl) ?_
      exact lw_ret hx hb hr hlocks dL_law_924
    · have tc_11 := t_nlt c_11
      exfalso; omega
  · have tcmp := t_neq cmp
    exact absurd (same2 hw_a hw_b_) cmp
