set_option maxHeartbeats 8000000 in
set_option maxRecDepth 100000 in
theorem p_blank {l : Launch} {D : va_G} {cI cZ cB : ClassId} {v : Int32}  : Met l yX10_isBlank wsX10_isBlank ({ frames := 0, cells := 0, slots := 0, locals := 0 }) (RO D cI cZ cB [.int v] []) (vp_Si (fun r : Int32 => (r.toInt = 1 ∧ blkP v) ∨ (r.toInt = 0 ∧ ¬ blkP v))) 0 0 (fun _ => False) := by
  refine ro_ret (cc := cX10_isBlank) (maxL := 1) (ty := .boolean) (own := RX10) (by decide) rfl rfl (Nat.le_of_ble_eq_true rfl) ?_
  intro p e s m args below meth c Q S hret hP hK ls hl
  obtain ⟨hx, hb, hml, hown, hts⟩ := id S
  have hl : lv_has ls 1 [(0, .int v)] := hl
  have kk0 : (0 : Int32).toInt = 0 := by decide
  have kk1 : (1 : Int32).toInt = 1 := by decide
  have kk10 : (10 : Int32).toInt = 10 := by decide
  have kk32 : (32 : Int32).toInt = 32 := by decide
  refine lv_iload_n hx hb dX10_isBlank_0 rfl (lv_at hl 0 rfl) ?_
  refine lv_bipush (v := 32) hx hb dX10_isBlank_1 (by decide) ?_
  refine lv_icmp_eq (tgt := 12) hx hb dX10_isBlank_3 (by decide) (fun c_1 => ?_) (fun c_1 => ?_)
  · have tc_1 := t_eq c_1
    refine lv_iconst (v := 1) hx hb dX10_isBlank_12 (by decide) ?_
    refine lv_goto (tgt := 17) hx hb dX10_isBlank_13 (by decide) ?_
    exact hret 1 _ _ (show ((1 : Int32).toInt = 1 ∧ blkP v) ∨ ((1 : Int32).toInt = 0 ∧ ¬ blkP v) from by unfold blkP; omega) rfl dX10_isBlank_17
  · have tc_1 := t_neq c_1
    refine lv_iload_n hx hb dX10_isBlank_6 rfl (lv_at hl 0 rfl) ?_
    refine lv_bipush (v := 10) hx hb dX10_isBlank_7 (by decide) ?_
    refine lv_icmp_ne (tgt := 16) hx hb dX10_isBlank_9 (by decide) (fun c_2 => ?_) (fun c_2 => ?_)
    · have tc_2 := t_neq c_2
      refine lv_iconst (v := 0) hx hb dX10_isBlank_16 (by decide) ?_
      exact hret 0 _ _ (show ((0 : Int32).toInt = 1 ∧ blkP v) ∨ ((0 : Int32).toInt = 0 ∧ ¬ blkP v) from by unfold blkP; omega) rfl dX10_isBlank_17
    · have tc_2 := t_eq c_2
      refine lv_iconst (v := 1) hx hb dX10_isBlank_12 (by decide) ?_
      refine lv_goto (tgt := 17) hx hb dX10_isBlank_13 (by decide) ?_
      exact hret 1 _ _ (show ((1 : Int32).toInt = 1 ∧ blkP v) ∨ ((1 : Int32).toInt = 0 ∧ ¬ blkP v) from by unfold blkP; omega) rfl dX10_isBlank_17

set_option maxHeartbeats 8000000 in
set_option maxRecDepth 100000 in
theorem p_letter {l : Launch} {D : va_G} {cI cZ cB : ClassId} {v : Int32}  : Met l yX10_isLetter wsX10_isLetter ({ frames := 0, cells := 0, slots := 0, locals := 0 }) (RO D cI cZ cB [.int v] []) (vp_Si (fun r : Int32 => (r.toInt = 1 ∧ letP v) ∨ (r.toInt = 0 ∧ ¬ letP v))) 0 0 (fun _ => False) := by
  refine ro_ret (cc := cX10_isLetter) (maxL := 1) (ty := .boolean) (own := RX10) (by decide) rfl rfl (Nat.le_of_ble_eq_true rfl) ?_
  intro p e s m args below meth c Q S hret hP hK ls hl
  obtain ⟨hx, hb, hml, hown, hts⟩ := id S
  have hl : lv_has ls 1 [(0, .int v)] := hl
  have kk0 : (0 : Int32).toInt = 0 := by decide
  have kk1 : (1 : Int32).toInt = 1 := by decide
  have kk97 : (97 : Int32).toInt = 97 := by decide
  have kk122 : (122 : Int32).toInt = 122 := by decide
  refine lv_iload_n hx hb dX10_isLetter_0 rfl (lv_at hl 0 rfl) ?_
  refine lv_bipush (v := 97) hx hb dX10_isLetter_1 (by decide) ?_
  refine lv_icmp_lt (tgt := 16) hx hb dX10_isLetter_3 (by decide) (fun c_1 => ?_) (fun c_1 => ?_)
  · have tc_1 := t_lt c_1
    refine lv_iconst (v := 0) hx hb dX10_isLetter_16 (by decide) ?_
    exact hret 0 _ _ (show ((0 : Int32).toInt = 1 ∧ letP v) ∨ ((0 : Int32).toInt = 0 ∧ ¬ letP v) from by unfold letP; omega) rfl dX10_isLetter_17
  · have tc_1 := t_nlt c_1
    refine lv_iload_n hx hb dX10_isLetter_6 rfl (lv_at hl 0 rfl) ?_
    refine lv_bipush (v := 122) hx hb dX10_isLetter_7 (by decide) ?_
    refine lv_icmp_gt (tgt := 16) hx hb dX10_isLetter_9 (by decide) (fun c_2 => ?_) (fun c_2 => ?_)
    · have tc_2 := t_lt c_2
      refine lv_iconst (v := 0) hx hb dX10_isLetter_16 (by decide) ?_
      exact hret 0 _ _ (show ((0 : Int32).toInt = 1 ∧ letP v) ∨ ((0 : Int32).toInt = 0 ∧ ¬ letP v) from by unfold letP; omega) rfl dX10_isLetter_17
    · have tc_2 := t_nlt c_2
      refine lv_iconst (v := 1) hx hb dX10_isLetter_12 (by decide) ?_
      refine lv_goto (tgt := 17) hx hb dX10_isLetter_13 (by decide) ?_
      exact hret 1 _ _ (show ((1 : Int32).toInt = 1 ∧ letP v) ∨ ((1 : Int32).toInt = 0 ∧ ¬ letP v) from by unfold letP; omega) rfl dX10_isLetter_17

set_option maxHeartbeats 8000000 in
set_option maxRecDepth 100000 in
theorem p_digit {l : Launch} {D : va_G} {cI cZ cB : ClassId} {v : Int32}  : Met l yX10_isDigit wsX10_isDigit ({ frames := 0, cells := 0, slots := 0, locals := 0 }) (RO D cI cZ cB [.int v] []) (vp_Si (fun r : Int32 => (r.toInt = 1 ∧ digP v) ∨ (r.toInt = 0 ∧ ¬ digP v))) 0 0 (fun _ => False) := by
  refine ro_ret (cc := cX10_isDigit) (maxL := 1) (ty := .boolean) (own := RX10) (by decide) rfl rfl (Nat.le_of_ble_eq_true rfl) ?_
  intro p e s m args below meth c Q S hret hP hK ls hl
  obtain ⟨hx, hb, hml, hown, hts⟩ := id S
  have hl : lv_has ls 1 [(0, .int v)] := hl
  have kk0 : (0 : Int32).toInt = 0 := by decide
  have kk1 : (1 : Int32).toInt = 1 := by decide
  have kk48 : (48 : Int32).toInt = 48 := by decide
  have kk57 : (57 : Int32).toInt = 57 := by decide
  refine lv_iload_n hx hb dX10_isDigit_0 rfl (lv_at hl 0 rfl) ?_
  refine lv_bipush (v := 48) hx hb dX10_isDigit_1 (by decide) ?_
  refine lv_icmp_lt (tgt := 16) hx hb dX10_isDigit_3 (by decide) (fun c_1 => ?_) (fun c_1 => ?_)
  · have tc_1 := t_lt c_1
    refine lv_iconst (v := 0) hx hb dX10_isDigit_16 (by decide) ?_
    exact hret 0 _ _ (show ((0 : Int32).toInt = 1 ∧ digP v) ∨ ((0 : Int32).toInt = 0 ∧ ¬ digP v) from by unfold digP; omega) rfl dX10_isDigit_17
  · have tc_1 := t_nlt c_1
    refine lv_iload_n hx hb dX10_isDigit_6 rfl (lv_at hl 0 rfl) ?_
    refine lv_bipush (v := 57) hx hb dX10_isDigit_7 (by decide) ?_
    refine lv_icmp_gt (tgt := 16) hx hb dX10_isDigit_9 (by decide) (fun c_2 => ?_) (fun c_2 => ?_)
    · have tc_2 := t_lt c_2
      refine lv_iconst (v := 0) hx hb dX10_isDigit_16 (by decide) ?_
      exact hret 0 _ _ (show ((0 : Int32).toInt = 1 ∧ digP v) ∨ ((0 : Int32).toInt = 0 ∧ ¬ digP v) from by unfold digP; omega) rfl dX10_isDigit_17
    · have tc_2 := t_nlt c_2
      refine lv_iconst (v := 1) hx hb dX10_isDigit_12 (by decide) ?_
      refine lv_goto (tgt := 17) hx hb dX10_isDigit_13 (by decide) ?_
      exact hret 1 _ _ (show ((1 : Int32).toInt = 1 ∧ digP v) ∨ ((1 : Int32).toInt = 0 ∧ ¬ digP v) from by unfold digP; omega) rfl dX10_isDigit_17

theorem in_p_byteAt_X9 : ∀ w ∈ wsX90, w ∈ wsX9_byteAt := tl_X9_byteAt_X9
set_option maxHeartbeats 8000000 in
set_option maxRecDepth 100000 in
theorem p_byteAt {l : Launch} {D : va_G} {cI cZ cB : ClassId} {h a_bytes : Nat} {v_length : Int32} {f_bytes : Nat → Int32} {i : Int32} (hv_length0 : 0 ≤ v_length.toInt) (hv_length1 : v_length.toInt ≤ 600) : Met l yX9_byteAt wsX9_byteAt ({ frames := 0, cells := 0, slots := 0, locals := 0 }) (RO D cI cZ cB [.ref h, .int i] [(h, .inr (8, [.ref a_bytes, .int v_length])), (a_bytes, .inl (cB, 600, .inl f_bytes))]) (vp_Si (fun r : Int32 => ((0 ≤ i.toInt ∧ i.toInt < v_length.toInt) → r = f_bytes i.toNatClampNeg) ∧ (¬ (0 ≤ i.toInt ∧ i.toInt < v_length.toInt) → r.toInt = 0))) 0 0 (fun _ => False) := by
  refine ro_ret (cc := cX9_byteAt) (maxL := 2) (ty := .int) (own := RX9) (by decide) rfl rfl (Nat.le_of_ble_eq_true rfl) ?_
  intro p e s m args below meth c Q S hret hP hK ls hl
  obtain ⟨hx, hb, hml, hown, hts⟩ := id S
  have hl : lv_has ls 2 [(0, .ref h), (1, .int i)] := hl
  have kk0 : (0 : Int32).toInt = 0 := by decide
  have lk0 := hts (.fieldLink RX9 13 "AbbeyHours$Tape" "length" "I") (List.mem_cons_of_mem _ (List.mem_append_left _ (List.mem_of_getElem? (i := 0) rfl)))
  have lk1 := hts (.fieldLink RX9 9 "AbbeyHours$Tape" "bytes" "[B") (List.mem_cons_of_mem _ (List.mem_append_left _ (List.mem_of_getElem? (i := 1) rfl)))
  refine lv_iload_n hx hb dX9_byteAt_0 rfl (lv_at hl 1 rfl) ?_
  refine lv_if_lt (tgt := 21) hx hb dX9_byteAt_1 (by decide) (fun c_1 => ?_) (fun c_1 => ?_)
  · have tc_1 := t_lt c_1
    refine lv_iconst (v := 0) hx hb dX9_byteAt_21 (by decide) ?_
    exact hret 0 _ _ (show ((0 ≤ i.toInt ∧ i.toInt < v_length.toInt) → (0 : Int32) = f_bytes i.toNatClampNeg) ∧ (¬ (0 ≤ i.toInt ∧ i.toInt < v_length.toInt) → (0 : Int32).toInt = 0) from by first | exact ⟨fun _ => eyv, fun h => absurd (by omega) h⟩ | exact ⟨fun h => by exfalso; omega, fun _ => by omega⟩) rfl dX9_byteAt_22
  · have tc_1 := t_nlt c_1
    refine lv_iload_n hx hb dX9_byteAt_4 rfl (lv_at hl 1 rfl) ?_
    refine lv_aload_n hx hb dX9_byteAt_5 rfl (lv_at hl 0 rfl) ?_
    refine va_get (D := D) (ci := 8) (v := .int v_length) (C := RX9) (T := TX9) (N := 2) hx hb hts in_p_byteAt_X9 hown hK.1 hP 0 rfl rfl 1 (by decide) lk0 (fun _ h9 => h9) rfl dX9_byteAt_6 ?_
    refine lv_icmp_ge (tgt := 21) hx hb dX9_byteAt_9 (by decide) (fun c_2 => ?_) (fun c_2 => ?_)
    · have tc_2 := t_le c_2
      refine lv_iconst (v := 0) hx hb dX9_byteAt_21 (by decide) ?_
      exact hret 0 _ _ (show ((0 ≤ i.toInt ∧ i.toInt < v_length.toInt) → (0 : Int32) = f_bytes i.toNatClampNeg) ∧ (¬ (0 ≤ i.toInt ∧ i.toInt < v_length.toInt) → (0 : Int32).toInt = 0) from by first | exact ⟨fun _ => eyv, fun h => absurd (by omega) h⟩ | exact ⟨fun h => by exfalso; omega, fun _ => by omega⟩) rfl dX9_byteAt_22
    · have tc_2 := t_nle c_2
      refine lv_aload_n hx hb dX9_byteAt_12 rfl (lv_at hl 0 rfl) ?_
      refine va_get (D := D) (ci := 8) (v := .ref a_bytes) (C := RX9) (T := TX9) (N := 2) hx hb hts in_p_byteAt_X9 hown hK.1 hP 0 rfl rfl 0 (by decide) lk1 (fun _ h9 => h9) rfl dX9_byteAt_13 ?_
      refine lv_iload_n hx hb dX9_byteAt_16 rfl (lv_at hl 1 rfl) ?_
      refine va_bald hx hb hK.1 hP 1 2 rfl rfl (t_in (by omega) (by omega)) dX9_byteAt_17 ?_
      refine lv_topi (fun yv eyv => ?_)
      refine lv_goto (tgt := 22) hx hb dX9_byteAt_18 (by decide) ?_
      exact hret yv _ _ (show ((0 ≤ i.toInt ∧ i.toInt < v_length.toInt) → yv = f_bytes i.toNatClampNeg) ∧ (¬ (0 ≤ i.toInt ∧ i.toInt < v_length.toInt) → yv.toInt = 0) from by first | exact ⟨fun _ => eyv, fun h => absurd (by omega) h⟩ | exact ⟨fun h => by exfalso; omega, fun _ => by omega⟩) rfl dX9_byteAt_22

set_option maxHeartbeats 8000000 in
set_option maxRecDepth 100000 in
theorem p_latin {l : Launch} {D : va_G} {cI cZ cB : ClassId} {adK adV : Nat → Nat} {i : Nat} {x : Int32} (hi : i < 7) (h0 : 0 ≤ x.toInt) (h1 : x.toInt < (stLen.getD i 0 : Nat)) : Met l yJ1_charAt_3b067 wsJ1_charAt_3b067 ({ frames := 2, cells := 0, slots := 0, locals := 43 }) (ROs D cI cZ cB adK adV [.ref (adV i), .int x] []) (vp_Si (fun r : Int32 => narrow .char (.int r) = .int r ∧ r = stB i x.toNatClampNeg)) 0 0 (fun _ => False) := by
  refine ros_ret (cc := cJ1_charAt_3b067) (maxL := 2) (ty := .char) (own := RJ1) (by decide) rfl rfl (Nat.le_of_ble_eq_true rfl) ?_
  intro p e s m args below meth c Q S hret hP hK hZ ls hl
  obtain ⟨hx, hb, hml, hown, hts⟩ := id S
  have hl : lv_has ls 2 [(0, .ref (adV i)), (1, .int x)] := hl
  have kk0 : (0 : Int32).toInt = 0 := by decide
  have kk255 : (255 : Int32).toInt = 255 := by decide
  refine lv_iload_n hx hb dJ1_charAt_3b067_0 rfl (lv_at hl 1 rfl) ?_
  refine lv_aload_n hx hb dJ1_charAt_3b067_1 rfl (lv_at hl 0 rfl) ?_
  refine va_tlen hx hb (hZ.1.1 i (by omega)).2.2.2 va_S.rf rfl dJ1_charAt_3b067_2 ?_
  refine lv_topi (fun x_1 ex_1 => ?_)
  have tx_1 : x_1.toInt = (stLen.getD i 0 : Nat) := by rw [ex_1]; exact nI_toInt (by have := stLen_rg i (by omega); omega)
  have hPc := hP.sub (ws' := []) [] rfl
  refine rosSv (As := [.int x, .int x_1]) (rest := []) S (j_check  (by omega) (by omega)) (va_cwS 2 hts gJ1_charAt_3b067_J0_checkIndex_df160 rfl rfl rfl (by decide +kernel) ⟨Nat.le_of_ble_eq_true rfl, Nat.le_of_ble_eq_true rfl⟩) hK hZ hPc rfl hl.1 rfl (Nat.le_of_ble_eq_true rfl) dJ1_charAt_3b067_3 ⟨Nat.le_of_ble_eq_true rfl, Nat.le_of_ble_eq_true rfl⟩ ?_
  refine lv_aload_n hx hb dJ1_charAt_3b067_6 rfl (lv_at hl 0 rfl) ?_
  refine lv_iload_n hx hb dJ1_charAt_3b067_7 rfl (lv_at hl 1 rfl) ?_
  refine va_tb hx hb (hZ.1.1 i (by omega)).2.2.2 va_S.rf (t_in (by omega) (by omega)) rfl dJ1_charAt_3b067_8 ?_
  refine lv_topi (fun bb ebb => ?_)
  refine lv_sipush (v := 255) hx hb dJ1_charAt_3b067_9 (by decide) ?_
  refine lv_iand hx hb dJ1_charAt_3b067_12 ?_
  refine lv_topi (fun an ean => ?_)
  refine lv_i2c hx hb dJ1_charAt_3b067_13 rfl ?_
  refine lv_topi (fun cc_ ecc_ => ?_)
  exact hret cc_ _ _ (show narrow .char (.int cc_) = .int cc_ ∧ cc_ = stB i x.toNatClampNeg from ⟨by rw [ecc_]; exact pk_nc _, by rw [ecc_, ean, ebb]; exact chr_eq i hi x.toNatClampNeg (by have := stLen_rg i hi; have := t_cl (x := x) (by omega); omega)⟩) (by rw [ecc_]; exact pk_nc _) dJ1_charAt_3b067_14

set_option maxHeartbeats 8000000 in
set_option maxRecDepth 100000 in
theorem p_charAt {l : Launch} {D : va_G} {cI cZ cB : ClassId} {adK adV : Nat → Nat} {i : Nat} {x : Int32} (hi : i < 7) (h0 : 0 ≤ x.toInt) (h1 : x.toInt < (stLen.getD i 0 : Nat)) : Met l yJ0_charAt_5068e wsJ0_charAt_5068e ({ frames := 3, cells := 0, slots := 0, locals := 64 }) (ROs D cI cZ cB adK adV [.ref (adK i), .int x] []) (vp_Si (fun r : Int32 => r = stB i x.toNatClampNeg)) 0 0 (fun _ => False) := by
  refine ros_ret (cc := cJ0_charAt_5068e) (maxL := 2) (ty := .char) (own := RJ0) (by decide) rfl rfl (Nat.le_of_ble_eq_true rfl) ?_
  intro p e s m args below meth c Q S hret hP hK hZ ls hl
  obtain ⟨hx, hb, hml, hown, hts⟩ := id S
  have hl : lv_has ls 2 [(0, .ref (adK i)), (1, .int x)] := hl
  have kk0 : (0 : Int32).toInt = 0 := by decide
  have kk1 : (1 : Int32).toInt = 1 := by decide
  have lk0 := hts (.fieldLink RJ0 9 "java/lang/String" "value" "[B") (mc_J0_charAt_5068e_r1 _ (List.mem_of_getElem? (i := 0) rfl))
  refine lv_aload_n hx hb dJ0_charAt_5068e_0 rfl (lv_at hl 0 rfl) ?_
  have hPc := hP.sub (ws' := []) [] rfl
  refine rosV (As := []) (rest := []) S (j_isLatin1  (by omega)) (cwV 0 hts gJ0_charAt_5068e_J0_isLatin1_aae02 rfl rfl rfl (by decide +kernel) ⟨Nat.le_of_ble_eq_true rfl, Nat.le_of_ble_eq_true rfl⟩) hK hZ hPc (vk_recv hZ.1 (by omega) va_S.rf) rfl hl.1 rfl (Nat.le_of_ble_eq_true rfl) dJ0_charAt_5068e_1 ⟨Nat.le_of_ble_eq_true rfl, Nat.le_of_ble_eq_true rfl⟩ (fun r_la hw_la => ?_)
  have hw_la : r_la = 1 := hw_la
  have hw_la := t_eq hw_la
  refine lv_if_eq (tgt := 16) hx hb dJ0_charAt_5068e_4 (by decide) (fun c_1 => ?_) (fun c_1 => ?_)
  · have tc_1 := t_eq c_1
    exfalso; omega
  · have tc_1 := t_neq c_1
    refine lv_aload_n hx hb dJ0_charAt_5068e_7 rfl (lv_at hl 0 rfl) ?_
    refine vk_getf hx hb (hZ.1.1 i (by omega)).2.2.1 va_S.rf hown lk0 (fun _ h => h) dJ0_charAt_5068e_8 ?_
    refine lv_iload_n hx hb dJ0_charAt_5068e_11 rfl (lv_at hl 1 rfl) ?_
    have hPc := hP.sub (ws' := []) [] rfl
    refine rosS (As := [.ref (adV i), .int x]) (rest := []) S (p_latin  (by omega) (by omega) (by omega)) (va_cwS 2 hts gJ0_charAt_5068e_J1_charAt_3b067 rfl rfl rfl (by decide +kernel) ⟨Nat.le_of_ble_eq_true rfl, Nat.le_of_ble_eq_true rfl⟩) hK hZ hPc rfl hl.1 rfl (Nat.le_of_ble_eq_true rfl) dJ0_charAt_5068e_12 ⟨Nat.le_of_ble_eq_true rfl, Nat.le_of_ble_eq_true rfl⟩ (fun r_lt hw_lt => ?_)
    have hw_lt : narrow .char (.int r_lt) = .int r_lt ∧ r_lt = stB i x.toNatClampNeg := hw_lt
    exact hret r_lt _ _ (show r_lt = stB i x.toNatClampNeg from hw_lt.2) hw_lt.1 dJ0_charAt_5068e_15

set_option maxHeartbeats 8000000 in
set_option maxRecDepth 100000 in
theorem p_spells {l : Launch} {D : va_G} {cI cZ cB : ClassId} {adK adV : Nat → Nat} {ht ta_bytes : Nat} {tv_length : Int32} {tf_bytes : Nat → Int32} {a b : Int32} {i : Nat} (htv_length0 : 0 ≤ tv_length.toInt) (htv_length1 : tv_length.toInt ≤ 600) (hi : i < 7) (ha0 : 0 ≤ a.toInt) (hab : a.toInt ≤ b.toInt) (hb1 : b.toInt ≤ tv_length.toInt) : Met l yX10_spells wsX10_spells ({ frames := 4, cells := 0, slots := 0, locals := 85 }) (ROs D cI cZ cB adK adV [.ref ht, .int a, .int b, .ref (adK i)] [(ht, .inr (8, [.ref ta_bytes, .int tv_length])), (ta_bytes, .inl (cB, 600, .inl tf_bytes))]) (vp_Si (fun r : Int32 => (r.toInt = 1 ∧ SpellP tf_bytes a.toNatClampNeg b.toNatClampNeg i) ∨ (r.toInt = 0 ∧ ¬ SpellP tf_bytes a.toNatClampNeg b.toNatClampNeg i))) 0 0 (fun _ => False) := by
  refine ros_ret (cc := cX10_spells) (maxL := 5) (ty := .boolean) (own := RX10) (by decide) rfl rfl (Nat.le_of_ble_eq_true rfl) ?_
  intro p e s m args below meth c Q S hret hP hK hZ ls hl
  obtain ⟨hx, hb, hml, hown, hts⟩ := id S
  have hl : lv_has ls 5 [(0, .ref ht), (1, .int a), (2, .int b), (3, .ref (adK i))] := hl
  have kk0 : (0 : Int32).toInt = 0 := by decide
  have kk1 : (1 : Int32).toInt = 1 := by decide
  have hsl := stLen_rg i hi
  have hsN : stN i = stLen.getD i 0 := rfl
  have ca := t_cl (x := a) (by omega)
  have cb := t_cl (x := b) (by omega)
  refine lv_iload_n hx hb dX10_spells_0 rfl (lv_at hl 2 rfl) ?_
  refine lv_iload_n hx hb dX10_spells_1 rfl (lv_at hl 1 rfl) ?_
  refine lv_isub hx hb dX10_spells_2 ?_
  refine lv_topi (fun df edf => ?_)
  first | have tdf := t_sub edf (by omega) (by omega) | skip
  refine lv_aload_n hx hb dX10_spells_3 rfl (lv_at hl 3 rfl) ?_
  have hPc := hP.sub (ws' := []) [] rfl
  refine rosV (As := []) (rest := [.int df]) S (j_length  (by omega)) (cwV 0 hts gX10_spells_J0_length_8abf5 rfl rfl rfl (by decide +kernel) ⟨Nat.le_of_ble_eq_true rfl, Nat.le_of_ble_eq_true rfl⟩) hK hZ hPc (vk_recv hZ.1 (by omega) va_S.rf) rfl hl.1 rfl (Nat.le_of_ble_eq_true rfl) dX10_spells_4 ⟨Nat.le_of_ble_eq_true rfl, Nat.le_of_ble_eq_true rfl⟩ (fun r_l1 hw_l1 => ?_)
  have hw_l1 : r_l1.toInt = (stLen.getD i 0 : Nat) := hw_l1
  refine lv_icmp_eq (tgt := 12) hx hb dX10_spells_7 (by decide) (fun c_2 => ?_) (fun c_2 => ?_)
  · have tc_2 := t_eq c_2
    refine lv_iconst (v := 0) hx hb dX10_spells_12 (by decide) ?_
    refine lv_istore (lv' := [(4, .int 0), (0, .ref ht), (1, .int a), (2, .int b), (3, .ref (adK i))]) hx hb dX10_spells_13 hl (by decide) rfl (fun ls hl => ?_)
    have loop15 : ∀ (fuel : Nat) (j : Int32), (stLen.getD i 0 : Nat) - j.toInt < (fuel : Int) → (0 ≤ j.toInt) → (j.toInt ≤ (stLen.getD i 0 : Nat)) → (Al (fun z => tf_bytes (a.toNatClampNeg + z) = stB i z) j.toInt) → ∀ ls : Array Slot, lv_has ls 5 [(4, .int j), (0, .ref ht), (1, .int a), (2, .int b), (3, .ref (adK i))] → W p l e ({ frames := 4, cells := 0, slots := 0, locals := 85 } : Room) s m args below meth c s.heap [] 0 0 Q (F0 m 15 ls []) := by
      intro fuel
      induction fuel with
      | zero =>
        intro j hmu hj0 hj1 hal ls hl
        exfalso; omega
      | succ fuel ih15 =>
        intro j hmu hj0 hj1 hal ls hl
        refine lv_iload hx hb dX10_spells_15 (lv_at hl 0 rfl) ?_
        refine lv_aload_n hx hb dX10_spells_17 rfl (lv_at hl 4 rfl) ?_
        have hPc := hP.sub (ws' := []) [] rfl
        refine rosV (As := []) (rest := [.int j]) S (j_length  (by omega)) (cwV 0 hts gX10_spells_J0_length_8abf5 rfl rfl rfl (by decide +kernel) ⟨Nat.le_of_ble_eq_true rfl, Nat.le_of_ble_eq_true rfl⟩) hK hZ hPc (vk_recv hZ.1 (by omega) va_S.rf) rfl hl.1 rfl (Nat.le_of_ble_eq_true rfl) dX10_spells_18 ⟨Nat.le_of_ble_eq_true rfl, Nat.le_of_ble_eq_true rfl⟩ (fun r_l2 hw_l2 => ?_)
        have hw_l2 : r_l2.toInt = (stLen.getD i 0 : Nat) := hw_l2
        refine lv_icmp_ge (tgt := 49) hx hb dX10_spells_21 (by decide) (fun c_3 => ?_) (fun c_3 => ?_)
        · have tc_3 := t_le c_3
          refine lv_iconst (v := 1) hx hb dX10_spells_49 (by decide) ?_
          exact hret 1 _ _ (show ((1 : Int32).toInt = 1 ∧ SpellP tf_bytes a.toNatClampNeg b.toNatClampNeg i) ∨ ((1 : Int32).toInt = 0 ∧ ¬ SpellP tf_bytes a.toNatClampNeg b.toNatClampNeg i) from Or.inl ⟨by omega, by omega, fun z hz => hal z (by omega)⟩) rfl dX10_spells_50
        · have tc_3 := t_nle c_3
          refine lv_aload_n hx hb dX10_spells_24 rfl (lv_at hl 1 rfl) ?_
          refine lv_iload_n hx hb dX10_spells_25 rfl (lv_at hl 2 rfl) ?_
          refine lv_iload hx hb dX10_spells_26 (lv_at hl 0 rfl) ?_
          refine lv_iadd hx hb dX10_spells_28 ?_
          refine lv_topi (fun ix eix => ?_)
          first | have tix := t_add eix (by omega) (by omega) | skip
          have cix : ix.toNatClampNeg = a.toNatClampNeg + j.toNatClampNeg := by have := t_cl (x := ix) (by omega); have := t_cl (x := j) (by omega); omega
          have hPc := hP.sub (ws' := [(ht, .inr (8, [.ref ta_bytes, .int tv_length])), (ta_bytes, .inl (cB, 600, .inl tf_bytes))]) [0, 1] rfl
          refine roV (As := [.int ix]) (rest := []) S (p_byteAt  (by omega) (by omega)) (cwV 1 hts gX10_spells_X9_byteAt rfl rfl rfl ⟨rfl, hd_X9_byteAt⟩ ⟨Nat.le_of_ble_eq_true rfl, Nat.le_of_ble_eq_true rfl⟩) hK hPc (va_recv hK.1 hPc (ci := 8) (q0 := 0) rfl rfl) rfl hl.1 rfl (Nat.le_of_ble_eq_true rfl) dX10_spells_29 ⟨Nat.le_of_ble_eq_true rfl, Nat.le_of_ble_eq_true rfl⟩ (fun r_bt hw_bt => ?_)
          have hw_bt : ((0 ≤ ix.toInt ∧ ix.toInt < tv_length.toInt) → r_bt = tf_bytes ix.toNatClampNeg) ∧ (¬ (0 ≤ ix.toInt ∧ ix.toInt < tv_length.toInt) → r_bt.toInt = 0) := hw_bt
          have ebt : r_bt = tf_bytes (a.toNatClampNeg + j.toNatClampNeg) := by rw [hw_bt.1 (by omega), cix]
          refine lv_aload_n hx hb dX10_spells_32 rfl (lv_at hl 4 rfl) ?_
          refine lv_iload hx hb dX10_spells_33 (lv_at hl 0 rfl) ?_
          have hPc := hP.sub (ws' := []) [] rfl
          refine rosV (As := [.int j]) (rest := [.int r_bt]) S (p_charAt  (by omega) (by omega) (by omega)) (cwV 1 hts gX10_spells_J0_charAt_5068e rfl rfl rfl (by decide +kernel) ⟨Nat.le_of_ble_eq_true rfl, Nat.le_of_ble_eq_true rfl⟩) hK hZ hPc (vk_recv hZ.1 (by omega) va_S.rf) rfl hl.1 rfl (Nat.le_of_ble_eq_true rfl) dX10_spells_35 ⟨Nat.le_of_ble_eq_true rfl, Nat.le_of_ble_eq_true rfl⟩ (fun r_ch hw_ch => ?_)
          have hw_ch : r_ch = stB i j.toNatClampNeg := hw_ch
          refine lv_icmp_eq (tgt := 43) hx hb dX10_spells_38 (by decide) (fun cc => ?_) (fun cc => ?_)
          · have tcc := t_eq cc
            obtain ⟨x_6, ex_6⟩ : ∃ y : Int32, y = j + 1 := ⟨_, rfl⟩
            refine lv_iinc (v := x_6) (lv' := [(4, .int x_6), (0, .ref ht), (1, .int a), (2, .int b), (3, .ref (adK i))]) hx hb dX10_spells_43 hl (k := 0) rfl (by rw [ex_6]; rfl) (by decide) rfl (fun ls hl => ?_)
            first | have tx_6 := t_add ex_6 (by omega) (by omega) | skip
            refine lv_goto (tgt := 15) hx hb dX10_spells_46 (by decide) ?_
            exact ih15 x_6 (by omega) (by omega) (by omega) (hal.up (i := j) (by omega) (by show tf_bytes (a.toNatClampNeg + j.toNatClampNeg) = stB i j.toNatClampNeg; rw [← ebt, ← hw_ch]; exact cc) (by omega)) ls (lv_sub hl [0, 1, 2, 3, 4] rfl)
          · have tcc := t_neq cc
            refine lv_iconst (v := 0) hx hb dX10_spells_41 (by decide) ?_
            exact hret 0 _ _ (show ((0 : Int32).toInt = 1 ∧ SpellP tf_bytes a.toNatClampNeg b.toNatClampNeg i) ∨ ((0 : Int32).toInt = 0 ∧ ¬ SpellP tf_bytes a.toNatClampNeg b.toNatClampNeg i) from Or.inr ⟨by omega, fun h => cc (by rw [ebt, hw_ch]; exact h.2 j.toNatClampNeg (by have := t_cl (x := j) (by omega); omega))⟩) rfl dX10_spells_42
    exact loop15 (((stLen.getD i 0 : Nat) - (0 : Int32).toInt).toNat + 1) 0 (by omega) (by omega) (by omega) (Al.zero (by omega)) ls (lv_sub hl [0, 1, 2, 3, 4] rfl)
  · have tc_2 := t_neq c_2
    refine lv_iconst (v := 0) hx hb dX10_spells_10 (by decide) ?_
    exact hret 0 _ _ (show ((0 : Int32).toInt = 1 ∧ SpellP tf_bytes a.toNatClampNeg b.toNatClampNeg i) ∨ ((0 : Int32).toInt = 0 ∧ ¬ SpellP tf_bytes a.toNatClampNeg b.toNatClampNeg i) from Or.inr ⟨by omega, fun h => by have h1 := h.1; omega⟩) rfl dX10_spells_11

set_option maxHeartbeats 8000000 in
set_option maxRecDepth 100000 in
theorem p_wordOf {l : Launch} {D : va_G} {cI cZ cB : ClassId} {adK adV : Nat → Nat} {ht ta_bytes : Nat} {tv_length : Int32} {tf_bytes : Nat → Int32} {a b : Int32} (htv_length0 : 0 ≤ tv_length.toInt) (htv_length1 : tv_length.toInt ≤ 600) (ha0 : 0 ≤ a.toInt) (hab : a.toInt ≤ b.toInt) (hb1 : b.toInt ≤ tv_length.toInt) : Met l yX10_wordOf wsX10_wordOf ({ frames := 5, cells := 0, slots := 0, locals := 109 }) (ROs D cI cZ cB adK adV [.ref ht, .int a, .int b] [(ht, .inr (8, [.ref ta_bytes, .int tv_length])), (ta_bytes, .inl (cB, 600, .inl tf_bytes))]) (vp_Si (fun r : Int32 => WordR tf_bytes a.toNatClampNeg b.toNatClampNeg r)) 0 0 (fun _ => False) := by
  refine ros_ret (cc := cX10_wordOf) (maxL := 3) (ty := .int) (own := RX10) (by decide) rfl rfl (Nat.le_of_ble_eq_true rfl) ?_
  intro p e s m args below meth c Q S hret hP hK hZ ls hl
  obtain ⟨hx, hb, hml, hown, hts⟩ := id S
  have hl : lv_has ls 3 [(0, .ref ht), (1, .int a), (2, .int b)] := hl
  have kk0 : (0 : Int32).toInt = 0 := by decide
  have kk1 : (1 : Int32).toInt = 1 := by decide
  have kk4 : (4 : Int32).toInt = 4 := by decide
  have kk5 : (5 : Int32).toInt = 5 := by decide
  have kk6 : (6 : Int32).toInt = 6 := by decide
  have kk7 : (7 : Int32).toInt = 7 := by decide
  have kk8 : (8 : Int32).toInt = 8 := by decide
  have kk9 : (9 : Int32).toInt = 9 := by decide
  have kk10 : (10 : Int32).toInt = 10 := by decide
  refine lv_aload_n hx hb dX10_wordOf_0 rfl (lv_at hl 0 rfl) ?_
  refine lv_iload_n hx hb dX10_wordOf_1 rfl (lv_at hl 1 rfl) ?_
  refine lv_iload_n hx hb dX10_wordOf_2 rfl (lv_at hl 2 rfl) ?_
  refine va_ldcS hx hb hown hZ.2.2.2.1 dX10_wordOf_3 ?_
  have hPc := hP.sub (ws' := [(ht, .inr (8, [.ref ta_bytes, .int tv_length])), (ta_bytes, .inl (cB, 600, .inl tf_bytes))]) [0, 1] rfl
  refine rosS (As := [.ref ht, .int a, .int b, .ref (adK 0)]) (rest := []) S (p_spells  (by omega) (by omega) (by omega) (by omega) (by omega) (by omega)) (va_cwS 4 hts gX10_wordOf_X10_spells rfl rfl rfl hd_X10_spells ⟨Nat.le_of_ble_eq_true rfl, Nat.le_of_ble_eq_true rfl⟩) hK hZ hPc rfl hl.1 rfl (Nat.le_of_ble_eq_true rfl) dX10_wordOf_5 ⟨Nat.le_of_ble_eq_true rfl, Nat.le_of_ble_eq_true rfl⟩ (fun r_s0 hw_s0 => ?_)
  have hw_s0 : (r_s0.toInt = 1 ∧ SpellP tf_bytes a.toNatClampNeg b.toNatClampNeg 0) ∨ (r_s0.toInt = 0 ∧ ¬ SpellP tf_bytes a.toNatClampNeg b.toNatClampNeg 0) := hw_s0
  have h1_s0 := if01 hw_s0
  refine lv_if_eq (tgt := 13) hx hb dX10_wordOf_8 (by decide) (fun c_1 => ?_) (fun c_1 => ?_)
  · have tc_1 := t_eq c_1
    refine lv_aload_n hx hb dX10_wordOf_13 rfl (lv_at hl 0 rfl) ?_
    refine lv_iload_n hx hb dX10_wordOf_14 rfl (lv_at hl 1 rfl) ?_
    refine lv_iload_n hx hb dX10_wordOf_15 rfl (lv_at hl 2 rfl) ?_
    refine va_ldcS hx hb hown hZ.2.2.2.2.1 dX10_wordOf_16 ?_
    have hPc := hP.sub (ws' := [(ht, .inr (8, [.ref ta_bytes, .int tv_length])), (ta_bytes, .inl (cB, 600, .inl tf_bytes))]) [0, 1] rfl
    refine rosS (As := [.ref ht, .int a, .int b, .ref (adK 1)]) (rest := []) S (p_spells  (by omega) (by omega) (by omega) (by omega) (by omega) (by omega)) (va_cwS 4 hts gX10_wordOf_X10_spells rfl rfl rfl hd_X10_spells ⟨Nat.le_of_ble_eq_true rfl, Nat.le_of_ble_eq_true rfl⟩) hK hZ hPc rfl hl.1 rfl (Nat.le_of_ble_eq_true rfl) dX10_wordOf_18 ⟨Nat.le_of_ble_eq_true rfl, Nat.le_of_ble_eq_true rfl⟩ (fun r_s1 hw_s1 => ?_)
    have hw_s1 : (r_s1.toInt = 1 ∧ SpellP tf_bytes a.toNatClampNeg b.toNatClampNeg 1) ∨ (r_s1.toInt = 0 ∧ ¬ SpellP tf_bytes a.toNatClampNeg b.toNatClampNeg 1) := hw_s1
    have h1_s1 := if01 hw_s1
    refine lv_if_eq (tgt := 26) hx hb dX10_wordOf_21 (by decide) (fun c_2 => ?_) (fun c_2 => ?_)
    · have tc_2 := t_eq c_2
      refine lv_aload_n hx hb dX10_wordOf_26 rfl (lv_at hl 0 rfl) ?_
      refine lv_iload_n hx hb dX10_wordOf_27 rfl (lv_at hl 1 rfl) ?_
      refine lv_iload_n hx hb dX10_wordOf_28 rfl (lv_at hl 2 rfl) ?_
      refine va_ldcS hx hb hown hZ.2.2.2.2.2.1 dX10_wordOf_29 ?_
      have hPc := hP.sub (ws' := [(ht, .inr (8, [.ref ta_bytes, .int tv_length])), (ta_bytes, .inl (cB, 600, .inl tf_bytes))]) [0, 1] rfl
      refine rosS (As := [.ref ht, .int a, .int b, .ref (adK 2)]) (rest := []) S (p_spells  (by omega) (by omega) (by omega) (by omega) (by omega) (by omega)) (va_cwS 4 hts gX10_wordOf_X10_spells rfl rfl rfl hd_X10_spells ⟨Nat.le_of_ble_eq_true rfl, Nat.le_of_ble_eq_true rfl⟩) hK hZ hPc rfl hl.1 rfl (Nat.le_of_ble_eq_true rfl) dX10_wordOf_31 ⟨Nat.le_of_ble_eq_true rfl, Nat.le_of_ble_eq_true rfl⟩ (fun r_s2 hw_s2 => ?_)
      have hw_s2 : (r_s2.toInt = 1 ∧ SpellP tf_bytes a.toNatClampNeg b.toNatClampNeg 2) ∨ (r_s2.toInt = 0 ∧ ¬ SpellP tf_bytes a.toNatClampNeg b.toNatClampNeg 2) := hw_s2
      have h1_s2 := if01 hw_s2
      refine lv_if_eq (tgt := 40) hx hb dX10_wordOf_34 (by decide) (fun c_3 => ?_) (fun c_3 => ?_)
      · have tc_3 := t_eq c_3
        refine lv_aload_n hx hb dX10_wordOf_40 rfl (lv_at hl 0 rfl) ?_
        refine lv_iload_n hx hb dX10_wordOf_41 rfl (lv_at hl 1 rfl) ?_
        refine lv_iload_n hx hb dX10_wordOf_42 rfl (lv_at hl 2 rfl) ?_
        refine va_ldcS hx hb hown hZ.2.2.2.2.2.2.1 dX10_wordOf_43 ?_
        have hPc := hP.sub (ws' := [(ht, .inr (8, [.ref ta_bytes, .int tv_length])), (ta_bytes, .inl (cB, 600, .inl tf_bytes))]) [0, 1] rfl
        refine rosS (As := [.ref ht, .int a, .int b, .ref (adK 3)]) (rest := []) S (p_spells  (by omega) (by omega) (by omega) (by omega) (by omega) (by omega)) (va_cwS 4 hts gX10_wordOf_X10_spells rfl rfl rfl hd_X10_spells ⟨Nat.le_of_ble_eq_true rfl, Nat.le_of_ble_eq_true rfl⟩) hK hZ hPc rfl hl.1 rfl (Nat.le_of_ble_eq_true rfl) dX10_wordOf_45 ⟨Nat.le_of_ble_eq_true rfl, Nat.le_of_ble_eq_true rfl⟩ (fun r_s3 hw_s3 => ?_)
        have hw_s3 : (r_s3.toInt = 1 ∧ SpellP tf_bytes a.toNatClampNeg b.toNatClampNeg 3) ∨ (r_s3.toInt = 0 ∧ ¬ SpellP tf_bytes a.toNatClampNeg b.toNatClampNeg 3) := hw_s3
        have h1_s3 := if01 hw_s3
        refine lv_if_eq (tgt := 54) hx hb dX10_wordOf_48 (by decide) (fun c_4 => ?_) (fun c_4 => ?_)
        · have tc_4 := t_eq c_4
          refine lv_aload_n hx hb dX10_wordOf_54 rfl (lv_at hl 0 rfl) ?_
          refine lv_iload_n hx hb dX10_wordOf_55 rfl (lv_at hl 1 rfl) ?_
          refine lv_iload_n hx hb dX10_wordOf_56 rfl (lv_at hl 2 rfl) ?_
          refine va_ldcS hx hb hown hZ.2.2.2.2.2.2.2.1 dX10_wordOf_57 ?_
          have hPc := hP.sub (ws' := [(ht, .inr (8, [.ref ta_bytes, .int tv_length])), (ta_bytes, .inl (cB, 600, .inl tf_bytes))]) [0, 1] rfl
          refine rosS (As := [.ref ht, .int a, .int b, .ref (adK 4)]) (rest := []) S (p_spells  (by omega) (by omega) (by omega) (by omega) (by omega) (by omega)) (va_cwS 4 hts gX10_wordOf_X10_spells rfl rfl rfl hd_X10_spells ⟨Nat.le_of_ble_eq_true rfl, Nat.le_of_ble_eq_true rfl⟩) hK hZ hPc rfl hl.1 rfl (Nat.le_of_ble_eq_true rfl) dX10_wordOf_59 ⟨Nat.le_of_ble_eq_true rfl, Nat.le_of_ble_eq_true rfl⟩ (fun r_s4 hw_s4 => ?_)
          have hw_s4 : (r_s4.toInt = 1 ∧ SpellP tf_bytes a.toNatClampNeg b.toNatClampNeg 4) ∨ (r_s4.toInt = 0 ∧ ¬ SpellP tf_bytes a.toNatClampNeg b.toNatClampNeg 4) := hw_s4
          have h1_s4 := if01 hw_s4
          refine lv_if_eq (tgt := 68) hx hb dX10_wordOf_62 (by decide) (fun c_5 => ?_) (fun c_5 => ?_)
          · have tc_5 := t_eq c_5
            refine lv_aload_n hx hb dX10_wordOf_68 rfl (lv_at hl 0 rfl) ?_
            refine lv_iload_n hx hb dX10_wordOf_69 rfl (lv_at hl 1 rfl) ?_
            refine lv_iload_n hx hb dX10_wordOf_70 rfl (lv_at hl 2 rfl) ?_
            refine va_ldcS hx hb hown hZ.2.2.2.2.2.2.2.2.1 dX10_wordOf_71 ?_
            have hPc := hP.sub (ws' := [(ht, .inr (8, [.ref ta_bytes, .int tv_length])), (ta_bytes, .inl (cB, 600, .inl tf_bytes))]) [0, 1] rfl
            refine rosS (As := [.ref ht, .int a, .int b, .ref (adK 5)]) (rest := []) S (p_spells  (by omega) (by omega) (by omega) (by omega) (by omega) (by omega)) (va_cwS 4 hts gX10_wordOf_X10_spells rfl rfl rfl hd_X10_spells ⟨Nat.le_of_ble_eq_true rfl, Nat.le_of_ble_eq_true rfl⟩) hK hZ hPc rfl hl.1 rfl (Nat.le_of_ble_eq_true rfl) dX10_wordOf_73 ⟨Nat.le_of_ble_eq_true rfl, Nat.le_of_ble_eq_true rfl⟩ (fun r_s5 hw_s5 => ?_)
            have hw_s5 : (r_s5.toInt = 1 ∧ SpellP tf_bytes a.toNatClampNeg b.toNatClampNeg 5) ∨ (r_s5.toInt = 0 ∧ ¬ SpellP tf_bytes a.toNatClampNeg b.toNatClampNeg 5) := hw_s5
            have h1_s5 := if01 hw_s5
            refine lv_if_eq (tgt := 82) hx hb dX10_wordOf_76 (by decide) (fun c_6 => ?_) (fun c_6 => ?_)
            · have tc_6 := t_eq c_6
              refine lv_aload_n hx hb dX10_wordOf_82 rfl (lv_at hl 0 rfl) ?_
              refine lv_iload_n hx hb dX10_wordOf_83 rfl (lv_at hl 1 rfl) ?_
              refine lv_iload_n hx hb dX10_wordOf_84 rfl (lv_at hl 2 rfl) ?_
              refine va_ldcS hx hb hown hZ.2.2.2.2.2.2.2.2.2 dX10_wordOf_85 ?_
              have hPc := hP.sub (ws' := [(ht, .inr (8, [.ref ta_bytes, .int tv_length])), (ta_bytes, .inl (cB, 600, .inl tf_bytes))]) [0, 1] rfl
              refine rosS (As := [.ref ht, .int a, .int b, .ref (adK 6)]) (rest := []) S (p_spells  (by omega) (by omega) (by omega) (by omega) (by omega) (by omega)) (va_cwS 4 hts gX10_wordOf_X10_spells rfl rfl rfl hd_X10_spells ⟨Nat.le_of_ble_eq_true rfl, Nat.le_of_ble_eq_true rfl⟩) hK hZ hPc rfl hl.1 rfl (Nat.le_of_ble_eq_true rfl) dX10_wordOf_87 ⟨Nat.le_of_ble_eq_true rfl, Nat.le_of_ble_eq_true rfl⟩ (fun r_s6 hw_s6 => ?_)
              have hw_s6 : (r_s6.toInt = 1 ∧ SpellP tf_bytes a.toNatClampNeg b.toNatClampNeg 6) ∨ (r_s6.toInt = 0 ∧ ¬ SpellP tf_bytes a.toNatClampNeg b.toNatClampNeg 6) := hw_s6
              have h1_s6 := if01 hw_s6
              refine lv_if_eq (tgt := 98) hx hb dX10_wordOf_90 (by decide) (fun c_7 => ?_) (fun c_7 => ?_)
              · have tc_7 := t_eq c_7
                refine lv_iconst (v := 1) hx hb dX10_wordOf_98 (by decide) ?_
                exact hret 1 _ _ (show WordR tf_bytes a.toNatClampNeg b.toNatClampNeg (1 : Int32) from by first | exact Or.inl ⟨6, by omega, if1 hw_s6 (by omega), by omega⟩ | exact Or.inl ⟨5, by omega, if1 hw_s5 (by omega), by omega⟩ | exact Or.inl ⟨4, by omega, if1 hw_s4 (by omega), by omega⟩ | exact Or.inl ⟨3, by omega, if1 hw_s3 (by omega), by omega⟩ | exact Or.inl ⟨2, by omega, if1 hw_s2 (by omega), by omega⟩ | exact Or.inl ⟨1, by omega, if1 hw_s1 (by omega), by omega⟩ | exact Or.inl ⟨0, by omega, if1 hw_s0 (by omega), by omega⟩ | exact Or.inr ⟨fun z hz => match z, hz with | 0, _ => if0 hw_s0 (by omega) | 1, _ => if0 hw_s1 (by omega) | 2, _ => if0 hw_s2 (by omega) | 3, _ => if0 hw_s3 (by omega) | 4, _ => if0 hw_s4 (by omega) | 5, _ => if0 hw_s5 (by omega) | 6, _ => if0 hw_s6 (by omega) | n + 7, h => absurd h (by omega), by omega⟩) rfl dX10_wordOf_99
              · have tc_7 := t_neq c_7
                refine lv_bipush (v := 10) hx hb dX10_wordOf_93 (by decide) ?_
                refine lv_goto (tgt := 99) hx hb dX10_wordOf_95 (by decide) ?_
                exact hret 10 _ _ (show WordR tf_bytes a.toNatClampNeg b.toNatClampNeg (10 : Int32) from by first | exact Or.inl ⟨6, by omega, if1 hw_s6 (by omega), by omega⟩ | exact Or.inl ⟨5, by omega, if1 hw_s5 (by omega), by omega⟩ | exact Or.inl ⟨4, by omega, if1 hw_s4 (by omega), by omega⟩ | exact Or.inl ⟨3, by omega, if1 hw_s3 (by omega), by omega⟩ | exact Or.inl ⟨2, by omega, if1 hw_s2 (by omega), by omega⟩ | exact Or.inl ⟨1, by omega, if1 hw_s1 (by omega), by omega⟩ | exact Or.inl ⟨0, by omega, if1 hw_s0 (by omega), by omega⟩ | exact Or.inr ⟨fun z hz => match z, hz with | 0, _ => if0 hw_s0 (by omega) | 1, _ => if0 hw_s1 (by omega) | 2, _ => if0 hw_s2 (by omega) | 3, _ => if0 hw_s3 (by omega) | 4, _ => if0 hw_s4 (by omega) | 5, _ => if0 hw_s5 (by omega) | 6, _ => if0 hw_s6 (by omega) | n + 7, h => absurd h (by omega), by omega⟩) rfl dX10_wordOf_99
            · have tc_6 := t_neq c_6
              refine lv_bipush (v := 9) hx hb dX10_wordOf_79 (by decide) ?_
              exact hret 9 _ _ (show WordR tf_bytes a.toNatClampNeg b.toNatClampNeg (9 : Int32) from by first | exact Or.inl ⟨6, by omega, if1 hw_s6 (by omega), by omega⟩ | exact Or.inl ⟨5, by omega, if1 hw_s5 (by omega), by omega⟩ | exact Or.inl ⟨4, by omega, if1 hw_s4 (by omega), by omega⟩ | exact Or.inl ⟨3, by omega, if1 hw_s3 (by omega), by omega⟩ | exact Or.inl ⟨2, by omega, if1 hw_s2 (by omega), by omega⟩ | exact Or.inl ⟨1, by omega, if1 hw_s1 (by omega), by omega⟩ | exact Or.inl ⟨0, by omega, if1 hw_s0 (by omega), by omega⟩ | exact Or.inr ⟨fun z hz => match z, hz with | 0, _ => if0 hw_s0 (by omega) | 1, _ => if0 hw_s1 (by omega) | 2, _ => if0 hw_s2 (by omega) | 3, _ => if0 hw_s3 (by omega) | 4, _ => if0 hw_s4 (by omega) | 5, _ => if0 hw_s5 (by omega) | 6, _ => if0 hw_s6 (by omega) | n + 7, h => absurd h (by omega), by omega⟩) rfl dX10_wordOf_81
          · have tc_5 := t_neq c_5
            refine lv_bipush (v := 8) hx hb dX10_wordOf_65 (by decide) ?_
            exact hret 8 _ _ (show WordR tf_bytes a.toNatClampNeg b.toNatClampNeg (8 : Int32) from by first | exact Or.inl ⟨6, by omega, if1 hw_s6 (by omega), by omega⟩ | exact Or.inl ⟨5, by omega, if1 hw_s5 (by omega), by omega⟩ | exact Or.inl ⟨4, by omega, if1 hw_s4 (by omega), by omega⟩ | exact Or.inl ⟨3, by omega, if1 hw_s3 (by omega), by omega⟩ | exact Or.inl ⟨2, by omega, if1 hw_s2 (by omega), by omega⟩ | exact Or.inl ⟨1, by omega, if1 hw_s1 (by omega), by omega⟩ | exact Or.inl ⟨0, by omega, if1 hw_s0 (by omega), by omega⟩ | exact Or.inr ⟨fun z hz => match z, hz with | 0, _ => if0 hw_s0 (by omega) | 1, _ => if0 hw_s1 (by omega) | 2, _ => if0 hw_s2 (by omega) | 3, _ => if0 hw_s3 (by omega) | 4, _ => if0 hw_s4 (by omega) | 5, _ => if0 hw_s5 (by omega) | 6, _ => if0 hw_s6 (by omega) | n + 7, h => absurd h (by omega), by omega⟩) rfl dX10_wordOf_67
        · have tc_4 := t_neq c_4
          refine lv_bipush (v := 7) hx hb dX10_wordOf_51 (by decide) ?_
          exact hret 7 _ _ (show WordR tf_bytes a.toNatClampNeg b.toNatClampNeg (7 : Int32) from by first | exact Or.inl ⟨6, by omega, if1 hw_s6 (by omega), by omega⟩ | exact Or.inl ⟨5, by omega, if1 hw_s5 (by omega), by omega⟩ | exact Or.inl ⟨4, by omega, if1 hw_s4 (by omega), by omega⟩ | exact Or.inl ⟨3, by omega, if1 hw_s3 (by omega), by omega⟩ | exact Or.inl ⟨2, by omega, if1 hw_s2 (by omega), by omega⟩ | exact Or.inl ⟨1, by omega, if1 hw_s1 (by omega), by omega⟩ | exact Or.inl ⟨0, by omega, if1 hw_s0 (by omega), by omega⟩ | exact Or.inr ⟨fun z hz => match z, hz with | 0, _ => if0 hw_s0 (by omega) | 1, _ => if0 hw_s1 (by omega) | 2, _ => if0 hw_s2 (by omega) | 3, _ => if0 hw_s3 (by omega) | 4, _ => if0 hw_s4 (by omega) | 5, _ => if0 hw_s5 (by omega) | 6, _ => if0 hw_s6 (by omega) | n + 7, h => absurd h (by omega), by omega⟩) rfl dX10_wordOf_53
      · have tc_3 := t_neq c_3
        refine lv_bipush (v := 6) hx hb dX10_wordOf_37 (by decide) ?_
        exact hret 6 _ _ (show WordR tf_bytes a.toNatClampNeg b.toNatClampNeg (6 : Int32) from by first | exact Or.inl ⟨6, by omega, if1 hw_s6 (by omega), by omega⟩ | exact Or.inl ⟨5, by omega, if1 hw_s5 (by omega), by omega⟩ | exact Or.inl ⟨4, by omega, if1 hw_s4 (by omega), by omega⟩ | exact Or.inl ⟨3, by omega, if1 hw_s3 (by omega), by omega⟩ | exact Or.inl ⟨2, by omega, if1 hw_s2 (by omega), by omega⟩ | exact Or.inl ⟨1, by omega, if1 hw_s1 (by omega), by omega⟩ | exact Or.inl ⟨0, by omega, if1 hw_s0 (by omega), by omega⟩ | exact Or.inr ⟨fun z hz => match z, hz with | 0, _ => if0 hw_s0 (by omega) | 1, _ => if0 hw_s1 (by omega) | 2, _ => if0 hw_s2 (by omega) | 3, _ => if0 hw_s3 (by omega) | 4, _ => if0 hw_s4 (by omega) | 5, _ => if0 hw_s5 (by omega) | 6, _ => if0 hw_s6 (by omega) | n + 7, h => absurd h (by omega), by omega⟩) rfl dX10_wordOf_39
    · have tc_2 := t_neq c_2
      refine lv_iconst (v := 5) hx hb dX10_wordOf_24 (by decide) ?_
      exact hret 5 _ _ (show WordR tf_bytes a.toNatClampNeg b.toNatClampNeg (5 : Int32) from by first | exact Or.inl ⟨6, by omega, if1 hw_s6 (by omega), by omega⟩ | exact Or.inl ⟨5, by omega, if1 hw_s5 (by omega), by omega⟩ | exact Or.inl ⟨4, by omega, if1 hw_s4 (by omega), by omega⟩ | exact Or.inl ⟨3, by omega, if1 hw_s3 (by omega), by omega⟩ | exact Or.inl ⟨2, by omega, if1 hw_s2 (by omega), by omega⟩ | exact Or.inl ⟨1, by omega, if1 hw_s1 (by omega), by omega⟩ | exact Or.inl ⟨0, by omega, if1 hw_s0 (by omega), by omega⟩ | exact Or.inr ⟨fun z hz => match z, hz with | 0, _ => if0 hw_s0 (by omega) | 1, _ => if0 hw_s1 (by omega) | 2, _ => if0 hw_s2 (by omega) | 3, _ => if0 hw_s3 (by omega) | 4, _ => if0 hw_s4 (by omega) | 5, _ => if0 hw_s5 (by omega) | 6, _ => if0 hw_s6 (by omega) | n + 7, h => absurd h (by omega), by omega⟩) rfl dX10_wordOf_25
  · have tc_1 := t_neq c_1
    refine lv_iconst (v := 4) hx hb dX10_wordOf_11 (by decide) ?_
    exact hret 4 _ _ (show WordR tf_bytes a.toNatClampNeg b.toNatClampNeg (4 : Int32) from by first | exact Or.inl ⟨6, by omega, if1 hw_s6 (by omega), by omega⟩ | exact Or.inl ⟨5, by omega, if1 hw_s5 (by omega), by omega⟩ | exact Or.inl ⟨4, by omega, if1 hw_s4 (by omega), by omega⟩ | exact Or.inl ⟨3, by omega, if1 hw_s3 (by omega), by omega⟩ | exact Or.inl ⟨2, by omega, if1 hw_s2 (by omega), by omega⟩ | exact Or.inl ⟨1, by omega, if1 hw_s1 (by omega), by omega⟩ | exact Or.inl ⟨0, by omega, if1 hw_s0 (by omega), by omega⟩ | exact Or.inr ⟨fun z hz => match z, hz with | 0, _ => if0 hw_s0 (by omega) | 1, _ => if0 hw_s1 (by omega) | 2, _ => if0 hw_s2 (by omega) | 3, _ => if0 hw_s3 (by omega) | 4, _ => if0 hw_s4 (by omega) | 5, _ => if0 hw_s5 (by omega) | 6, _ => if0 hw_s6 (by omega) | n + 7, h => absurd h (by omega), by omega⟩) rfl dX10_wordOf_12

set_option maxHeartbeats 8000000 in
set_option maxRecDepth 100000 in
theorem p_kindOf {l : Launch} {D : va_G} {cI cZ cB : ClassId} {adK adV : Nat → Nat} {ht ta_bytes : Nat} {tv_length : Int32} {tf_bytes : Nat → Int32} {a b : Int32} (htv_length0 : 0 ≤ tv_length.toInt) (htv_length1 : tv_length.toInt ≤ 600) (ha0 : 0 ≤ a.toInt) (hab : a.toInt ≤ b.toInt) (hb1 : b.toInt ≤ tv_length.toInt) (hab2 : a.toInt < b.toInt) : Met l yX10_kindOf wsX10_kindOf ({ frames := 6, cells := 0, slots := 0, locals := 131 }) (ROs D cI cZ cB adK adV [.ref ht, .int a, .int b] [(ht, .inr (8, [.ref ta_bytes, .int tv_length])), (ta_bytes, .inl (cB, 600, .inl tf_bytes))]) (vp_Si (fun r : Int32 => KoR tf_bytes a.toNatClampNeg b.toNatClampNeg r)) 0 0 (fun _ => False) := by
  refine ros_ret (cc := cX10_kindOf) (maxL := 4) (ty := .int) (own := RX10) (by decide) rfl rfl (Nat.le_of_ble_eq_true rfl) ?_
  intro p e s m args below meth c Q S hret hP hK hZ ls hl
  obtain ⟨hx, hb, hml, hown, hts⟩ := id S
  have hl : lv_has ls 4 [(0, .ref ht), (1, .int a), (2, .int b)] := hl
  have kk0 : (0 : Int32).toInt = 0 := by decide
  have kk1 : (1 : Int32).toInt = 1 := by decide
  have kk2 : (2 : Int32).toInt = 2 := by decide
  have kk3 : (3 : Int32).toInt = 3 := by decide
  have kk59 : (59 : Int32).toInt = 59 := by decide
  have ca := t_cl (x := a) (by omega)
  have cb := t_cl (x := b) (by omega)
  refine lv_aload_n hx hb dX10_kindOf_0 rfl (lv_at hl 0 rfl) ?_
  refine lv_iload_n hx hb dX10_kindOf_1 rfl (lv_at hl 1 rfl) ?_
  have hPc := hP.sub (ws' := [(ht, .inr (8, [.ref ta_bytes, .int tv_length])), (ta_bytes, .inl (cB, 600, .inl tf_bytes))]) [0, 1] rfl
  refine roV (As := [.int a]) (rest := []) S (p_byteAt  (by omega) (by omega)) (cwV 1 hts gX10_kindOf_X9_byteAt rfl rfl rfl ⟨rfl, hd_X9_byteAt⟩ ⟨Nat.le_of_ble_eq_true rfl, Nat.le_of_ble_eq_true rfl⟩) hK hPc (va_recv hK.1 hPc (ci := 8) (q0 := 0) rfl rfl) rfl hl.1 rfl (Nat.le_of_ble_eq_true rfl) dX10_kindOf_2 ⟨Nat.le_of_ble_eq_true rfl, Nat.le_of_ble_eq_true rfl⟩ (fun r_bt hw_bt => ?_)
  have hw_bt : ((0 ≤ a.toInt ∧ a.toInt < tv_length.toInt) → r_bt = tf_bytes a.toNatClampNeg) ∧ (¬ (0 ≤ a.toInt ∧ a.toInt < tv_length.toInt) → r_bt.toInt = 0) := hw_bt
  have ebt : r_bt = tf_bytes a.toNatClampNeg := hw_bt.1 (by omega)
  refine lv_istore_n (lv' := [(3, .int r_bt), (0, .ref ht), (1, .int a), (2, .int b)]) hx hb dX10_kindOf_5 rfl hl (by decide) rfl (fun ls hl => ?_)
  refine lv_iload_n hx hb dX10_kindOf_6 rfl (lv_at hl 0 rfl) ?_
  have hPc := hP.sub (ws' := []) [] rfl
  refine roS (As := [.int r_bt]) (rest := []) S (p_letter  ) (va_cwS 1 hts gX10_kindOf_X10_isLetter rfl rfl rfl hd_X10_isLetter ⟨Nat.le_of_ble_eq_true rfl, Nat.le_of_ble_eq_true rfl⟩) hK hPc rfl hl.1 rfl (Nat.le_of_ble_eq_true rfl) dX10_kindOf_7 ⟨Nat.le_of_ble_eq_true rfl, Nat.le_of_ble_eq_true rfl⟩ (fun r_il hw_il => ?_)
  have hw_il : (r_il.toInt = 1 ∧ letP r_bt) ∨ (r_il.toInt = 0 ∧ ¬ letP r_bt) := hw_il
  rw [ebt] at hw_il
  have h1_il := if01 hw_il
  refine lv_if_eq (tgt := 20) hx hb dX10_kindOf_10 (by decide) (fun c_1 => ?_) (fun c_1 => ?_)
  · have tc_1 := t_eq c_1
    refine lv_iload_n hx hb dX10_kindOf_20 rfl (lv_at hl 0 rfl) ?_
    have hPc := hP.sub (ws' := []) [] rfl
    refine roS (As := [.int r_bt]) (rest := []) S (p_digit  ) (va_cwS 1 hts gX10_kindOf_X10_isDigit rfl rfl rfl hd_X10_isDigit ⟨Nat.le_of_ble_eq_true rfl, Nat.le_of_ble_eq_true rfl⟩) hK hPc rfl hl.1 rfl (Nat.le_of_ble_eq_true rfl) dX10_kindOf_21 ⟨Nat.le_of_ble_eq_true rfl, Nat.le_of_ble_eq_true rfl⟩ (fun r_id_ hw_id_ => ?_)
    have hw_id_ : (r_id_.toInt = 1 ∧ digP r_bt) ∨ (r_id_.toInt = 0 ∧ ¬ digP r_bt) := hw_id_
    rw [ebt] at hw_id_
    have h1_id_ := if01 hw_id_
    refine lv_if_eq (tgt := 40) hx hb dX10_kindOf_24 (by decide) (fun c_2 => ?_) (fun c_2 => ?_)
    · have tc_2 := t_eq c_2
      refine lv_iload_n hx hb dX10_kindOf_40 rfl (lv_at hl 0 rfl) ?_
      refine lv_bipush (v := 59) hx hb dX10_kindOf_41 (by decide) ?_
      refine lv_icmp_ne (tgt := 50) hx hb dX10_kindOf_43 (by decide) (fun c_3 => ?_) (fun c_3 => ?_)
      · have tc_3 := t_neq c_3
        refine lv_iconst (v := 1) hx hb dX10_kindOf_50 (by decide) ?_
        exact hret 1 _ _ (show KoR tf_bytes a.toNatClampNeg b.toNatClampNeg (1 : Int32) from by first | exact Or.inl ⟨if1 hw_il (by omega), hw_wd⟩ | exact Or.inr (Or.inl ⟨if0 hw_il (by omega), if1 hw_id_ (by omega), by omega⟩) | exact Or.inr (Or.inr ⟨if0 hw_il (by omega), if0 hw_id_ (by omega), by rw [← ebt]; omega⟩)) rfl dX10_kindOf_51
      · have tc_3 := t_eq c_3
        refine lv_iconst (v := 2) hx hb dX10_kindOf_46 (by decide) ?_
        refine lv_goto (tgt := 51) hx hb dX10_kindOf_47 (by decide) ?_
        exact hret 2 _ _ (show KoR tf_bytes a.toNatClampNeg b.toNatClampNeg (2 : Int32) from by first | exact Or.inl ⟨if1 hw_il (by omega), hw_wd⟩ | exact Or.inr (Or.inl ⟨if0 hw_il (by omega), if1 hw_id_ (by omega), by omega⟩) | exact Or.inr (Or.inr ⟨if0 hw_il (by omega), if0 hw_id_ (by omega), by rw [← ebt]; omega⟩)) rfl dX10_kindOf_51
    · have tc_2 := t_neq c_2
      refine lv_iload_n hx hb dX10_kindOf_27 rfl (lv_at hl 3 rfl) ?_
      refine lv_iload_n hx hb dX10_kindOf_28 rfl (lv_at hl 2 rfl) ?_
      refine lv_isub hx hb dX10_kindOf_29 ?_
      refine lv_topi (fun x_4 ex_4 => ?_)
      first | have tx_4 := t_sub ex_4 (by omega) (by omega) | skip
      refine lv_iconst (v := 3) hx hb dX10_kindOf_30 (by decide) ?_
      refine lv_icmp_gt (tgt := 38) hx hb dX10_kindOf_31 (by decide) (fun c_5 => ?_) (fun c_5 => ?_)
      · have tc_5 := t_lt c_5
        refine lv_iconst (v := 1) hx hb dX10_kindOf_38 (by decide) ?_
        exact hret 1 _ _ (show KoR tf_bytes a.toNatClampNeg b.toNatClampNeg (1 : Int32) from by first | exact Or.inl ⟨if1 hw_il (by omega), hw_wd⟩ | exact Or.inr (Or.inl ⟨if0 hw_il (by omega), if1 hw_id_ (by omega), by omega⟩) | exact Or.inr (Or.inr ⟨if0 hw_il (by omega), if0 hw_id_ (by omega), by rw [← ebt]; omega⟩)) rfl dX10_kindOf_39
      · have tc_5 := t_nlt c_5
        refine lv_iconst (v := 3) hx hb dX10_kindOf_34 (by decide) ?_
        refine lv_goto (tgt := 39) hx hb dX10_kindOf_35 (by decide) ?_
        exact hret 3 _ _ (show KoR tf_bytes a.toNatClampNeg b.toNatClampNeg (3 : Int32) from by first | exact Or.inl ⟨if1 hw_il (by omega), hw_wd⟩ | exact Or.inr (Or.inl ⟨if0 hw_il (by omega), if1 hw_id_ (by omega), by omega⟩) | exact Or.inr (Or.inr ⟨if0 hw_il (by omega), if0 hw_id_ (by omega), by rw [← ebt]; omega⟩)) rfl dX10_kindOf_39
  · have tc_1 := t_neq c_1
    refine lv_aload_n hx hb dX10_kindOf_13 rfl (lv_at hl 1 rfl) ?_
    refine lv_iload_n hx hb dX10_kindOf_14 rfl (lv_at hl 2 rfl) ?_
    refine lv_iload_n hx hb dX10_kindOf_15 rfl (lv_at hl 3 rfl) ?_
    have hPc := hP.sub (ws' := [(ht, .inr (8, [.ref ta_bytes, .int tv_length])), (ta_bytes, .inl (cB, 600, .inl tf_bytes))]) [0, 1] rfl
    refine rosS (As := [.ref ht, .int a, .int b]) (rest := []) S (p_wordOf  (by omega) (by omega) (by omega) (by omega) (by omega)) (va_cwS 3 hts gX10_kindOf_X10_wordOf rfl rfl rfl hd_X10_wordOf ⟨Nat.le_of_ble_eq_true rfl, Nat.le_of_ble_eq_true rfl⟩) hK hZ hPc rfl hl.1 rfl (Nat.le_of_ble_eq_true rfl) dX10_kindOf_16 ⟨Nat.le_of_ble_eq_true rfl, Nat.le_of_ble_eq_true rfl⟩ (fun r_wd hw_wd => ?_)
    have hw_wd : WordR tf_bytes a.toNatClampNeg b.toNatClampNeg r_wd := hw_wd
    exact hret r_wd _ _ (show KoR tf_bytes a.toNatClampNeg b.toNatClampNeg r_wd from by first | exact Or.inl ⟨if1 hw_il (by omega), hw_wd⟩ | exact Or.inr (Or.inl ⟨if0 hw_il (by omega), if1 hw_id_ (by omega), by omega⟩) | exact Or.inr (Or.inr ⟨if0 hw_il (by omega), if0 hw_id_ (by omega), by rw [← ebt]; omega⟩)) rfl dX10_kindOf_19

set_option maxHeartbeats 8000000 in
set_option maxRecDepth 100000 in
theorem p_numberOf {l : Launch} {D : va_G} {cI cZ cB : ClassId} {ht ta_bytes : Nat} {tv_length : Int32} {tf_bytes : Nat → Int32} {a b : Int32} (htv_length0 : 0 ≤ tv_length.toInt) (htv_length1 : tv_length.toInt ≤ 600) (ha0 : 0 ≤ a.toInt) (hab : a.toInt ≤ b.toInt) (hb1 : b.toInt ≤ tv_length.toInt) : Met l yX10_numberOf wsX10_numberOf ({ frames := 1, cells := 0, slots := 0, locals := 21 }) (RO D cI cZ cB [.ref ht, .int a, .int b] [(ht, .inr (8, [.ref ta_bytes, .int tv_length])), (ta_bytes, .inl (cB, 600, .inl tf_bytes))]) (vp_Si (fun r : Int32 => r = numF tf_bytes a.toNatClampNeg (b.toNatClampNeg - a.toNatClampNeg))) 0 0 (fun _ => False) := by
  refine ro_ret (cc := cX10_numberOf) (maxL := 5) (ty := .int) (own := RX10) (by decide) rfl rfl (Nat.le_of_ble_eq_true rfl) ?_
  intro p e s m args below meth c Q S hret hP hK ls hl
  obtain ⟨hx, hb, hml, hown, hts⟩ := id S
  have hl : lv_has ls 5 [(0, .ref ht), (1, .int a), (2, .int b)] := hl
  have kk0 : (0 : Int32).toInt = 0 := by decide
  have kk1 : (1 : Int32).toInt = 1 := by decide
  have kk10 : (10 : Int32).toInt = 10 := by decide
  have kk48 : (48 : Int32).toInt = 48 := by decide
  have ca := t_cl (x := a) (by omega)
  have cb := t_cl (x := b) (by omega)
  refine lv_iconst (v := 0) hx hb dX10_numberOf_0 (by decide) ?_
  refine lv_istore_n (lv' := [(3, .int 0), (0, .ref ht), (1, .int a), (2, .int b)]) hx hb dX10_numberOf_1 rfl hl (by decide) rfl (fun ls hl => ?_)
  refine lv_iload_n hx hb dX10_numberOf_2 rfl (lv_at hl 2 rfl) ?_
  refine lv_istore (lv' := [(4, .int a), (3, .int 0), (0, .ref ht), (1, .int a), (2, .int b)]) hx hb dX10_numberOf_3 hl (by decide) rfl (fun ls hl => ?_)
  have loop5 : ∀ (fuel : Nat) (v : Int32) (j : Int32), b.toInt - j.toInt < (fuel : Int) → (a.toInt ≤ j.toInt) → (j.toInt ≤ b.toInt) → (v = numF tf_bytes a.toNatClampNeg (j.toNatClampNeg - a.toNatClampNeg)) → ∀ ls : Array Slot, lv_has ls 5 [(4, .int j), (3, .int v), (0, .ref ht), (1, .int a), (2, .int b)] → W p l e ({ frames := 1, cells := 0, slots := 0, locals := 21 } : Room) s m args below meth c s.heap [] 0 0 Q (F0 m 5 ls []) := by
    intro fuel
    induction fuel with
    | zero =>
      intro v j hmu hj0 hj1 hv ls hl
      exfalso; omega
    | succ fuel ih5 =>
      intro v j hmu hj0 hj1 hv ls hl
      refine lv_iload hx hb dX10_numberOf_5 (lv_at hl 0 rfl) ?_
      refine lv_iload_n hx hb dX10_numberOf_7 rfl (lv_at hl 4 rfl) ?_
      refine lv_icmp_ge (tgt := 32) hx hb dX10_numberOf_8 (by decide) (fun c_1 => ?_) (fun c_1 => ?_)
      · have tc_1 := t_le c_1
        refine lv_iload_n hx hb dX10_numberOf_32 rfl (lv_at hl 1 rfl) ?_
        exact hret v _ _ (show v = numF tf_bytes a.toNatClampNeg (b.toNatClampNeg - a.toNatClampNeg) from by rw [show b = j from i32_ext (by omega)]; exact hv) rfl dX10_numberOf_33
      · have tc_1 := t_nle c_1
        refine lv_iload_n hx hb dX10_numberOf_11 rfl (lv_at hl 1 rfl) ?_
        refine lv_bipush (v := 10) hx hb dX10_numberOf_12 (by decide) ?_
        refine lv_imul hx hb dX10_numberOf_14 ?_
        refine lv_topi (fun m1 em1 => ?_)
        refine lv_aload_n hx hb dX10_numberOf_15 rfl (lv_at hl 2 rfl) ?_
        refine lv_iload hx hb dX10_numberOf_16 (lv_at hl 0 rfl) ?_
        have hPc := hP.sub (ws' := [(ht, .inr (8, [.ref ta_bytes, .int tv_length])), (ta_bytes, .inl (cB, 600, .inl tf_bytes))]) [0, 1] rfl
        refine roV (As := [.int j]) (rest := [.int m1]) S (p_byteAt  (by omega) (by omega)) (cwV 1 hts gX10_numberOf_X9_byteAt rfl rfl rfl ⟨rfl, hd_X9_byteAt⟩ ⟨Nat.le_of_ble_eq_true rfl, Nat.le_of_ble_eq_true rfl⟩) hK hPc (va_recv hK.1 hPc (ci := 8) (q0 := 0) rfl rfl) rfl hl.1 rfl (Nat.le_of_ble_eq_true rfl) dX10_numberOf_18 ⟨Nat.le_of_ble_eq_true rfl, Nat.le_of_ble_eq_true rfl⟩ (fun r_bt hw_bt => ?_)
        have hw_bt : ((0 ≤ j.toInt ∧ j.toInt < tv_length.toInt) → r_bt = tf_bytes j.toNatClampNeg) ∧ (¬ (0 ≤ j.toInt ∧ j.toInt < tv_length.toInt) → r_bt.toInt = 0) := hw_bt
        refine lv_iadd hx hb dX10_numberOf_21 ?_
        refine lv_topi (fun m2 em2 => ?_)
        refine lv_bipush (v := 48) hx hb dX10_numberOf_22 (by decide) ?_
        refine lv_isub hx hb dX10_numberOf_24 ?_
        refine lv_topi (fun m3 em3 => ?_)
        refine lv_istore_n (lv' := [(3, .int m3), (4, .int j), (0, .ref ht), (1, .int a), (2, .int b)]) hx hb dX10_numberOf_25 rfl hl (by decide) rfl (fun ls hl => ?_)
        obtain ⟨x_5, ex_5⟩ : ∃ y : Int32, y = j + 1 := ⟨_, rfl⟩
        refine lv_iinc (v := x_5) (lv' := [(4, .int x_5), (3, .int m3), (0, .ref ht), (1, .int a), (2, .int b)]) hx hb dX10_numberOf_26 hl (k := 1) rfl (by rw [ex_5]; rfl) (by decide) rfl (fun ls hl => ?_)
        first | have tx_5 := t_add ex_5 (by omega) (by omega) | skip
        refine lv_goto (tgt := 5) hx hb dX10_numberOf_29 (by decide) ?_
        exact ih5 m3 x_5 (by omega) (by omega) (by omega) (by have cj := t_cl (x := j) (by omega); rw [em3, em2, em1, hw_bt.1 (by omega), ix1 (x := x_5) (i := j) (by omega) (by omega), show j.toNatClampNeg + 1 - a.toNatClampNeg = (j.toNatClampNeg - a.toNatClampNeg) + 1 by omega]; show v * 10 + tf_bytes j.toNatClampNeg - 48 = numF tf_bytes a.toNatClampNeg (j.toNatClampNeg - a.toNatClampNeg) * 10 + tf_bytes (a.toNatClampNeg + (j.toNatClampNeg - a.toNatClampNeg)) - 48; rw [← hv, show a.toNatClampNeg + (j.toNatClampNeg - a.toNatClampNeg) = j.toNatClampNeg by omega]) ls (lv_sub hl [0, 1, 2, 3, 4] rfl)
  exact loop5 ((b.toInt - a.toInt).toNat + 1) 0 a (by omega) (by omega) (by omega) (by rw [Nat.sub_self]; rfl) ls (lv_sub hl [0, 1, 2, 3, 4] rfl)

theorem in_p_endOf_X10 : ∀ w ∈ wsX100, w ∈ wsX10_endOfToken := tl_X10_endOfToken_X10
set_option maxHeartbeats 8000000 in
set_option maxRecDepth 100000 in
theorem p_endOf {l : Launch} {D : va_G} {cI cZ cB : ClassId} {h a_kinds a_places a_values ht ta_bytes : Nat} {v_size v_textLength tv_length : Int32} {tf_bytes : Nat → Int32} {a : Int32} (htv_length0 : 0 ≤ tv_length.toInt) (htv_length1 : tv_length.toInt ≤ 600) (hf0 : 0 ≤ a.toInt) (hf1 : a.toInt < v_textLength.toInt) (hf2 : v_textLength.toInt ≤ tv_length.toInt) : Met l yX10_endOfToken wsX10_endOfToken ({ frames := 1, cells := 0, slots := 0, locals := 21 }) (RO D cI cZ cB [.ref h, .ref ht, .int a] [(h, .inr (9, [.ref a_kinds, .ref a_places, .ref a_values, .int v_size, .int v_textLength])), (ht, .inr (8, [.ref ta_bytes, .int tv_length])), (ta_bytes, .inl (cB, 600, .inl tf_bytes))]) (vp_Si (fun r : Int32 => EndR tf_bytes v_textLength.toNatClampNeg a.toNatClampNeg r.toNatClampNeg ∧ a.toInt < r.toInt ∧ r.toInt ≤ v_textLength.toInt)) 0 0 (fun _ => False) := by
  refine ro_ret (cc := cX10_endOfToken) (maxL := 4) (ty := .int) (own := RX10) (by decide) rfl rfl (Nat.le_of_ble_eq_true rfl) ?_
  intro p e s m args below meth c Q S hret hP hK ls hl
  obtain ⟨hx, hb, hml, hown, hts⟩ := id S
  have hl : lv_has ls 4 [(0, .ref h), (1, .ref ht), (2, .int a)] := hl
  have kk0 : (0 : Int32).toInt = 0 := by decide
  have kk1 : (1 : Int32).toInt = 1 := by decide
  have lk0 := hts (.fieldLink RX10 25 "AbbeyHours$Tokens" "textLength" "I") (List.mem_cons_of_mem _ (List.mem_append_left _ (List.mem_append_left _ (List.mem_of_getElem? (i := 0) rfl))))
  have ca := t_cl (x := a) (by omega)
  have cn := t_cl (x := v_textLength) (by omega)
  refine lv_iload_n hx hb dX10_endOfToken_0 rfl (lv_at hl 2 rfl) ?_
  refine lv_iconst (v := 1) hx hb dX10_endOfToken_1 (by decide) ?_
  refine lv_iadd hx hb dX10_endOfToken_2 ?_
  refine lv_topi (fun x_1 ex_1 => ?_)
  first | have tx_1 := t_add ex_1 (by omega) (by omega) | skip
  refine lv_istore_n (lv' := [(3, .int x_1), (0, .ref h), (1, .ref ht), (2, .int a)]) hx hb dX10_endOfToken_3 rfl hl (by decide) rfl (fun ls hl => ?_)
  refine lv_aload_n hx hb dX10_endOfToken_4 rfl (lv_at hl 2 rfl) ?_
  refine lv_iload_n hx hb dX10_endOfToken_5 rfl (lv_at hl 3 rfl) ?_
  have hPc := hP.sub (ws' := [(ht, .inr (8, [.ref ta_bytes, .int tv_length])), (ta_bytes, .inl (cB, 600, .inl tf_bytes))]) [1, 2] rfl
  refine roV (As := [.int a]) (rest := []) S (p_byteAt  (by omega) (by omega)) (cwV 1 hts gX10_endOfToken_X9_byteAt rfl rfl rfl ⟨rfl, hd_X9_byteAt⟩ ⟨Nat.le_of_ble_eq_true rfl, Nat.le_of_ble_eq_true rfl⟩) hK hPc (va_recv hK.1 hPc (ci := 8) (q0 := 0) rfl rfl) rfl hl.1 rfl (Nat.le_of_ble_eq_true rfl) dX10_endOfToken_6 ⟨Nat.le_of_ble_eq_true rfl, Nat.le_of_ble_eq_true rfl⟩ (fun r_bt hw_bt => ?_)
  have hw_bt : ((0 ≤ a.toInt ∧ a.toInt < tv_length.toInt) → r_bt = tf_bytes a.toNatClampNeg) ∧ (¬ (0 ≤ a.toInt ∧ a.toInt < tv_length.toInt) → r_bt.toInt = 0) := hw_bt
  have ebt : r_bt = tf_bytes a.toNatClampNeg := hw_bt.1 (by omega)
  have hPc := hP.sub (ws' := []) [] rfl
  refine roS (As := [.int r_bt]) (rest := []) S (p_letter  ) (va_cwS 1 hts gX10_endOfToken_X10_isLetter rfl rfl rfl hd_X10_isLetter ⟨Nat.le_of_ble_eq_true rfl, Nat.le_of_ble_eq_true rfl⟩) hK hPc rfl hl.1 rfl (Nat.le_of_ble_eq_true rfl) dX10_endOfToken_9 ⟨Nat.le_of_ble_eq_true rfl, Nat.le_of_ble_eq_true rfl⟩ (fun r_il hw_il => ?_)
  have hw_il : (r_il.toInt = 1 ∧ letP r_bt) ∨ (r_il.toInt = 0 ∧ ¬ letP r_bt) := hw_il
  rw [ebt] at hw_il
  have h1_il := if01 hw_il
  refine lv_if_eq (tgt := 40) hx hb dX10_endOfToken_12 (by decide) (fun c_2 => ?_) (fun c_2 => ?_)
  · have tc_2 := t_eq c_2
    refine lv_aload_n hx hb dX10_endOfToken_40 rfl (lv_at hl 2 rfl) ?_
    refine lv_iload_n hx hb dX10_endOfToken_41 rfl (lv_at hl 3 rfl) ?_
    have hPc := hP.sub (ws' := [(ht, .inr (8, [.ref ta_bytes, .int tv_length])), (ta_bytes, .inl (cB, 600, .inl tf_bytes))]) [1, 2] rfl
    refine roV (As := [.int a]) (rest := []) S (p_byteAt  (by omega) (by omega)) (cwV 1 hts gX10_endOfToken_X9_byteAt rfl rfl rfl ⟨rfl, hd_X9_byteAt⟩ ⟨Nat.le_of_ble_eq_true rfl, Nat.le_of_ble_eq_true rfl⟩) hK hPc (va_recv hK.1 hPc (ci := 8) (q0 := 0) rfl rfl) rfl hl.1 rfl (Nat.le_of_ble_eq_true rfl) dX10_endOfToken_42 ⟨Nat.le_of_ble_eq_true rfl, Nat.le_of_ble_eq_true rfl⟩ (fun r_b2 hw_b2 => ?_)
    have hw_b2 : ((0 ≤ a.toInt ∧ a.toInt < tv_length.toInt) → r_b2 = tf_bytes a.toNatClampNeg) ∧ (¬ (0 ≤ a.toInt ∧ a.toInt < tv_length.toInt) → r_b2.toInt = 0) := hw_b2
    have eb2 : r_b2 = tf_bytes a.toNatClampNeg := hw_b2.1 (by omega)
    have hPc := hP.sub (ws' := []) [] rfl
    refine roS (As := [.int r_b2]) (rest := []) S (p_digit  ) (va_cwS 1 hts gX10_endOfToken_X10_isDigit rfl rfl rfl hd_X10_isDigit ⟨Nat.le_of_ble_eq_true rfl, Nat.le_of_ble_eq_true rfl⟩) hK hPc rfl hl.1 rfl (Nat.le_of_ble_eq_true rfl) dX10_endOfToken_45 ⟨Nat.le_of_ble_eq_true rfl, Nat.le_of_ble_eq_true rfl⟩ (fun r_id_ hw_id_ => ?_)
    have hw_id_ : (r_id_.toInt = 1 ∧ digP r_b2) ∨ (r_id_.toInt = 0 ∧ ¬ digP r_b2) := hw_id_
    rw [eb2] at hw_id_
    have h1_id_ := if01 hw_id_
    refine lv_if_eq (tgt := 76) hx hb dX10_endOfToken_48 (by decide) (fun c_3 => ?_) (fun c_3 => ?_)
    · have tc_3 := t_eq c_3
      refine lv_iload_n hx hb dX10_endOfToken_76 rfl (lv_at hl 0 rfl) ?_
      exact hret x_1 _ _ (show EndR tf_bytes v_textLength.toNatClampNeg a.toNatClampNeg x_1.toNatClampNeg ∧ a.toInt < x_1.toInt ∧ x_1.toInt ≤ v_textLength.toInt from by first | (have cj := t_cl (x := j) (by omega); exact ⟨Or.inl ⟨if1 hw_il (by omega), ⟨by omega, by omega, fun k_ h1 h2 => hru k_ h1 h2, fun z => by first | (exfalso; omega) | (rw [← ejb]; exact if0 hw_q2 (by omega))⟩⟩, by omega, by omega⟩) | (have cj := t_cl (x := j) (by omega); exact ⟨Or.inr (Or.inl ⟨if0 hw_il (by omega), if1 hw_id_ (by omega), ⟨by omega, by omega, fun k_ h1 h2 => hru k_ h1 h2, fun z => by first | (exfalso; omega) | (rw [← ejb]; exact if0 hw_q2 (by omega))⟩⟩), by omega, by omega⟩) | exact ⟨Or.inr (Or.inr ⟨if0 hw_il (by omega), if0 hw_id_ (by omega), ix1 (by omega) (by omega)⟩), by omega, by omega⟩) rfl dX10_endOfToken_77
    · have tc_3 := t_neq c_3
      have loop51 : ∀ (fuel : Nat) (j : Int32), v_textLength.toInt - j.toInt < (fuel : Int) → (a.toInt < j.toInt) → (j.toInt ≤ v_textLength.toInt) → (∀ k_ : Nat, a.toNatClampNeg ≤ k_ → k_ < j.toNatClampNeg → digP (tf_bytes k_)) → ∀ ls : Array Slot, lv_has ls 4 [(3, .int j), (0, .ref h), (1, .ref ht), (2, .int a)] → W p l e ({ frames := 1, cells := 0, slots := 0, locals := 21 } : Room) s m args below meth c s.heap [] 0 0 Q (F0 m 51 ls []) := by
        intro fuel
        induction fuel with
        | zero =>
          intro j hmu hj0 hj1 hru ls hl
          exfalso; omega
        | succ fuel ih51 =>
          intro j hmu hj0 hj1 hru ls hl
          refine lv_iload_n hx hb dX10_endOfToken_51 rfl (lv_at hl 0 rfl) ?_
          refine lv_aload_n hx hb dX10_endOfToken_52 rfl (lv_at hl 1 rfl) ?_
          refine va_get (D := D) (ci := 9) (v := .int v_textLength) (C := RX10) (T := TX10) (N := 5) hx hb hts in_p_endOf_X10 hown hK.1 hP 0 rfl rfl 4 (by decide) lk0 (fun _ h9 => h9) rfl dX10_endOfToken_53 ?_
          refine lv_icmp_ge (tgt := 76) hx hb dX10_endOfToken_56 (by decide) (fun c_4 => ?_) (fun c_4 => ?_)
          · have tc_4 := t_le c_4
            refine lv_iload_n hx hb dX10_endOfToken_76 rfl (lv_at hl 0 rfl) ?_
            exact hret j _ _ (show EndR tf_bytes v_textLength.toNatClampNeg a.toNatClampNeg j.toNatClampNeg ∧ a.toInt < j.toInt ∧ j.toInt ≤ v_textLength.toInt from by first | (have cj := t_cl (x := j) (by omega); exact ⟨Or.inl ⟨if1 hw_il (by omega), ⟨by omega, by omega, fun k_ h1 h2 => hru k_ h1 h2, fun z => by first | (exfalso; omega) | (rw [← ejb]; exact if0 hw_q2 (by omega))⟩⟩, by omega, by omega⟩) | (have cj := t_cl (x := j) (by omega); exact ⟨Or.inr (Or.inl ⟨if0 hw_il (by omega), if1 hw_id_ (by omega), ⟨by omega, by omega, fun k_ h1 h2 => hru k_ h1 h2, fun z => by first | (exfalso; omega) | (rw [← ejb]; exact if0 hw_q2 (by omega))⟩⟩), by omega, by omega⟩) | exact ⟨Or.inr (Or.inr ⟨if0 hw_il (by omega), if0 hw_id_ (by omega), ix1 (by omega) (by omega)⟩), by omega, by omega⟩) rfl dX10_endOfToken_77
          · have tc_4 := t_nle c_4
            refine lv_aload_n hx hb dX10_endOfToken_59 rfl (lv_at hl 2 rfl) ?_
            refine lv_iload_n hx hb dX10_endOfToken_60 rfl (lv_at hl 0 rfl) ?_
            have hPc := hP.sub (ws' := [(ht, .inr (8, [.ref ta_bytes, .int tv_length])), (ta_bytes, .inl (cB, 600, .inl tf_bytes))]) [1, 2] rfl
            refine roV (As := [.int j]) (rest := []) S (p_byteAt  (by omega) (by omega)) (cwV 1 hts gX10_endOfToken_X9_byteAt rfl rfl rfl ⟨rfl, hd_X9_byteAt⟩ ⟨Nat.le_of_ble_eq_true rfl, Nat.le_of_ble_eq_true rfl⟩) hK hPc (va_recv hK.1 hPc (ci := 8) (q0 := 0) rfl rfl) rfl hl.1 rfl (Nat.le_of_ble_eq_true rfl) dX10_endOfToken_61 ⟨Nat.le_of_ble_eq_true rfl, Nat.le_of_ble_eq_true rfl⟩ (fun r_jb hw_jb => ?_)
            have hw_jb : ((0 ≤ j.toInt ∧ j.toInt < tv_length.toInt) → r_jb = tf_bytes j.toNatClampNeg) ∧ (¬ (0 ≤ j.toInt ∧ j.toInt < tv_length.toInt) → r_jb.toInt = 0) := hw_jb
            have ejb : r_jb = tf_bytes j.toNatClampNeg := hw_jb.1 (by omega)
            have hPc := hP.sub (ws' := []) [] rfl
            refine roS (As := [.int r_jb]) (rest := []) S (p_digit  ) (va_cwS 1 hts gX10_endOfToken_X10_isDigit rfl rfl rfl hd_X10_isDigit ⟨Nat.le_of_ble_eq_true rfl, Nat.le_of_ble_eq_true rfl⟩) hK hPc rfl hl.1 rfl (Nat.le_of_ble_eq_true rfl) dX10_endOfToken_64 ⟨Nat.le_of_ble_eq_true rfl, Nat.le_of_ble_eq_true rfl⟩ (fun r_q2 hw_q2 => ?_)
            have hw_q2 : (r_q2.toInt = 1 ∧ digP r_jb) ∨ (r_q2.toInt = 0 ∧ ¬ digP r_jb) := hw_q2
            have h1_q2 := if01 hw_q2
            refine lv_if_eq (tgt := 76) hx hb dX10_endOfToken_67 (by decide) (fun c_5 => ?_) (fun c_5 => ?_)
            · have tc_5 := t_eq c_5
              refine lv_iload_n hx hb dX10_endOfToken_76 rfl (lv_at hl 0 rfl) ?_
              exact hret j _ _ (show EndR tf_bytes v_textLength.toNatClampNeg a.toNatClampNeg j.toNatClampNeg ∧ a.toInt < j.toInt ∧ j.toInt ≤ v_textLength.toInt from by first | (have cj := t_cl (x := j) (by omega); exact ⟨Or.inl ⟨if1 hw_il (by omega), ⟨by omega, by omega, fun k_ h1 h2 => hru k_ h1 h2, fun z => by first | (exfalso; omega) | (rw [← ejb]; exact if0 hw_q2 (by omega))⟩⟩, by omega, by omega⟩) | (have cj := t_cl (x := j) (by omega); exact ⟨Or.inr (Or.inl ⟨if0 hw_il (by omega), if1 hw_id_ (by omega), ⟨by omega, by omega, fun k_ h1 h2 => hru k_ h1 h2, fun z => by first | (exfalso; omega) | (rw [← ejb]; exact if0 hw_q2 (by omega))⟩⟩), by omega, by omega⟩) | exact ⟨Or.inr (Or.inr ⟨if0 hw_il (by omega), if0 hw_id_ (by omega), ix1 (by omega) (by omega)⟩), by omega, by omega⟩) rfl dX10_endOfToken_77
            · have tc_5 := t_neq c_5
              obtain ⟨x_6, ex_6⟩ : ∃ y : Int32, y = j + 1 := ⟨_, rfl⟩
              refine lv_iinc (v := x_6) (lv' := [(3, .int x_6), (0, .ref h), (1, .ref ht), (2, .int a)]) hx hb dX10_endOfToken_70 hl (k := 0) rfl (by rw [ex_6]; rfl) (by decide) rfl (fun ls hl => ?_)
              first | have tx_6 := t_add ex_6 (by omega) (by omega) | skip
              refine lv_goto (tgt := 51) hx hb dX10_endOfToken_73 (by decide) ?_
              exact ih51 x_6 (by omega) (by omega) (by omega) (fun k_ h1 h2 => by have c1 := t_cl (x := j) (by omega); have c2 := t_cl (x := x_6) (by omega); by_cases z : k_ = j.toNatClampNeg; (rw [z, ← ejb]; exact if1 hw_q2 (by omega)); exact hru k_ h1 (by omega)) ls (lv_sub hl [0, 1, 2, 3] rfl)
      exact loop51 ((v_textLength.toInt - x_1.toInt).toNat + 1) x_1 (by omega) (by omega) (by omega) (fun k_ h1 h2 => by have := t_cl (x := x_1) (by omega); rw [show k_ = a.toNatClampNeg by omega]; exact if1 hw_id_ (by omega)) ls (lv_sub hl [0, 1, 2, 3] rfl)
  · have tc_2 := t_neq c_2
    have loop15 : ∀ (fuel : Nat) (j : Int32), v_textLength.toInt - j.toInt < (fuel : Int) → (a.toInt < j.toInt) → (j.toInt ≤ v_textLength.toInt) → (∀ k_ : Nat, a.toNatClampNeg ≤ k_ → k_ < j.toNatClampNeg → letP (tf_bytes k_)) → ∀ ls : Array Slot, lv_has ls 4 [(3, .int j), (0, .ref h), (1, .ref ht), (2, .int a)] → W p l e ({ frames := 1, cells := 0, slots := 0, locals := 21 } : Room) s m args below meth c s.heap [] 0 0 Q (F0 m 15 ls []) := by
      intro fuel
      induction fuel with
      | zero =>
        intro j hmu hj0 hj1 hru ls hl
        exfalso; omega
      | succ fuel ih15 =>
        intro j hmu hj0 hj1 hru ls hl
        refine lv_iload_n hx hb dX10_endOfToken_15 rfl (lv_at hl 0 rfl) ?_
        refine lv_aload_n hx hb dX10_endOfToken_16 rfl (lv_at hl 1 rfl) ?_
        refine va_get (D := D) (ci := 9) (v := .int v_textLength) (C := RX10) (T := TX10) (N := 5) hx hb hts in_p_endOf_X10 hown hK.1 hP 0 rfl rfl 4 (by decide) lk0 (fun _ h9 => h9) rfl dX10_endOfToken_17 ?_
        refine lv_icmp_ge (tgt := 76) hx hb dX10_endOfToken_20 (by decide) (fun c_7 => ?_) (fun c_7 => ?_)
        · have tc_7 := t_le c_7
          refine lv_iload_n hx hb dX10_endOfToken_76 rfl (lv_at hl 0 rfl) ?_
          exact hret j _ _ (show EndR tf_bytes v_textLength.toNatClampNeg a.toNatClampNeg j.toNatClampNeg ∧ a.toInt < j.toInt ∧ j.toInt ≤ v_textLength.toInt from by first | (have cj := t_cl (x := j) (by omega); exact ⟨Or.inl ⟨if1 hw_il (by omega), ⟨by omega, by omega, fun k_ h1 h2 => hru k_ h1 h2, fun z => by first | (exfalso; omega) | (rw [← ejb]; exact if0 hw_q2 (by omega))⟩⟩, by omega, by omega⟩) | (have cj := t_cl (x := j) (by omega); exact ⟨Or.inr (Or.inl ⟨if0 hw_il (by omega), if1 hw_id_ (by omega), ⟨by omega, by omega, fun k_ h1 h2 => hru k_ h1 h2, fun z => by first | (exfalso; omega) | (rw [← ejb]; exact if0 hw_q2 (by omega))⟩⟩), by omega, by omega⟩) | exact ⟨Or.inr (Or.inr ⟨if0 hw_il (by omega), if0 hw_id_ (by omega), ix1 (by omega) (by omega)⟩), by omega, by omega⟩) rfl dX10_endOfToken_77
        · have tc_7 := t_nle c_7
          refine lv_aload_n hx hb dX10_endOfToken_23 rfl (lv_at hl 2 rfl) ?_
          refine lv_iload_n hx hb dX10_endOfToken_24 rfl (lv_at hl 0 rfl) ?_
          have hPc := hP.sub (ws' := [(ht, .inr (8, [.ref ta_bytes, .int tv_length])), (ta_bytes, .inl (cB, 600, .inl tf_bytes))]) [1, 2] rfl
          refine roV (As := [.int j]) (rest := []) S (p_byteAt  (by omega) (by omega)) (cwV 1 hts gX10_endOfToken_X9_byteAt rfl rfl rfl ⟨rfl, hd_X9_byteAt⟩ ⟨Nat.le_of_ble_eq_true rfl, Nat.le_of_ble_eq_true rfl⟩) hK hPc (va_recv hK.1 hPc (ci := 8) (q0 := 0) rfl rfl) rfl hl.1 rfl (Nat.le_of_ble_eq_true rfl) dX10_endOfToken_25 ⟨Nat.le_of_ble_eq_true rfl, Nat.le_of_ble_eq_true rfl⟩ (fun r_jb hw_jb => ?_)
          have hw_jb : ((0 ≤ j.toInt ∧ j.toInt < tv_length.toInt) → r_jb = tf_bytes j.toNatClampNeg) ∧ (¬ (0 ≤ j.toInt ∧ j.toInt < tv_length.toInt) → r_jb.toInt = 0) := hw_jb
          have ejb : r_jb = tf_bytes j.toNatClampNeg := hw_jb.1 (by omega)
          have hPc := hP.sub (ws' := []) [] rfl
          refine roS (As := [.int r_jb]) (rest := []) S (p_letter  ) (va_cwS 1 hts gX10_endOfToken_X10_isLetter rfl rfl rfl hd_X10_isLetter ⟨Nat.le_of_ble_eq_true rfl, Nat.le_of_ble_eq_true rfl⟩) hK hPc rfl hl.1 rfl (Nat.le_of_ble_eq_true rfl) dX10_endOfToken_28 ⟨Nat.le_of_ble_eq_true rfl, Nat.le_of_ble_eq_true rfl⟩ (fun r_q2 hw_q2 => ?_)
          have hw_q2 : (r_q2.toInt = 1 ∧ letP r_jb) ∨ (r_q2.toInt = 0 ∧ ¬ letP r_jb) := hw_q2
          have h1_q2 := if01 hw_q2
          refine lv_if_eq (tgt := 76) hx hb dX10_endOfToken_31 (by decide) (fun c_8 => ?_) (fun c_8 => ?_)
          · have tc_8 := t_eq c_8
            refine lv_iload_n hx hb dX10_endOfToken_76 rfl (lv_at hl 0 rfl) ?_
            exact hret j _ _ (show EndR tf_bytes v_textLength.toNatClampNeg a.toNatClampNeg j.toNatClampNeg ∧ a.toInt < j.toInt ∧ j.toInt ≤ v_textLength.toInt from by first | (have cj := t_cl (x := j) (by omega); exact ⟨Or.inl ⟨if1 hw_il (by omega), ⟨by omega, by omega, fun k_ h1 h2 => hru k_ h1 h2, fun z => by first | (exfalso; omega) | (rw [← ejb]; exact if0 hw_q2 (by omega))⟩⟩, by omega, by omega⟩) | (have cj := t_cl (x := j) (by omega); exact ⟨Or.inr (Or.inl ⟨if0 hw_il (by omega), if1 hw_id_ (by omega), ⟨by omega, by omega, fun k_ h1 h2 => hru k_ h1 h2, fun z => by first | (exfalso; omega) | (rw [← ejb]; exact if0 hw_q2 (by omega))⟩⟩), by omega, by omega⟩) | exact ⟨Or.inr (Or.inr ⟨if0 hw_il (by omega), if0 hw_id_ (by omega), ix1 (by omega) (by omega)⟩), by omega, by omega⟩) rfl dX10_endOfToken_77
          · have tc_8 := t_neq c_8
            obtain ⟨x_9, ex_9⟩ : ∃ y : Int32, y = j + 1 := ⟨_, rfl⟩
            refine lv_iinc (v := x_9) (lv' := [(3, .int x_9), (0, .ref h), (1, .ref ht), (2, .int a)]) hx hb dX10_endOfToken_34 hl (k := 0) rfl (by rw [ex_9]; rfl) (by decide) rfl (fun ls hl => ?_)
            first | have tx_9 := t_add ex_9 (by omega) (by omega) | skip
            refine lv_goto (tgt := 15) hx hb dX10_endOfToken_37 (by decide) ?_
            exact ih15 x_9 (by omega) (by omega) (by omega) (fun k_ h1 h2 => by have c1 := t_cl (x := j) (by omega); have c2 := t_cl (x := x_9) (by omega); by_cases z : k_ = j.toNatClampNeg; (rw [z, ← ejb]; exact if1 hw_q2 (by omega)); exact hru k_ h1 (by omega)) ls (lv_sub hl [0, 1, 2, 3] rfl)
    exact loop15 ((v_textLength.toInt - x_1.toInt).toNat + 1) x_1 (by omega) (by omega) (by omega) (fun k_ h1 h2 => by have := t_cl (x := x_1) (by omega); rw [show k_ = a.toNatClampNeg by omega]; exact if1 hw_il (by omega)) ls (lv_sub hl [0, 1, 2, 3] rfl)

