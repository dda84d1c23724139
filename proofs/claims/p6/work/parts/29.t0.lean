set_option maxHeartbeats 8000000 in
set_option maxRecDepth 100000 in
theorem y_isBlank {l : Launch} {D : va_G} {cI cZ cB : ClassId} {v : Int32}  : Met l yX10_isBlank wsX10_isBlank ({ frames := 0, cells := 0, slots := 0, locals := 0 }) (RO D cI cZ cB [.int v] []) (vp_Si (fun r : Int32 => (r.toInt = 0 ∨ r.toInt = 1))) 0 0 (fun _ => False) := by
  refine ro_ret (cc := cX10_isBlank) (maxL := 1) (ty := .boolean) (own := RX10) (by decide) rfl rfl (Nat.le_of_ble_eq_true rfl) ?_
  intro p e s m args below meth c Q S hret hP hK ls hl
  obtain ⟨hx, hb, hml, hown, hts⟩ := id S
  have hl : lv_has ls 1 [(0, .int v)] := hl
  have kk0 : (0 : Int32).toInt = 0 := by decide
  have kk1 : (1 : Int32).toInt = 1 := by decide
  have kk10 : (10 : Int32).toInt = 10 := by decide
  have kk32 : (32 : Int32).toInt = 32 := by decide
  refine lv_iload_n hx hb dX10_isBlank_0 rfl (lv_at hl 0 rfl) ?_
  refine lv_bipush (v := 32) hx hb dX10_isBlank_1 (by decide) ?_
  refine lv_icmp_eq (tgt := 12) hx hb dX10_isBlank_3 (by decide) (fun c_1 => ?_) (fun c_1 => ?_)
  · have tc_1 := t_eq c_1
    refine lv_iconst (v := 1) hx hb dX10_isBlank_12 (by decide) ?_
    refine lv_goto (tgt := 17) hx hb dX10_isBlank_13 (by decide) ?_
    exact hret 1 _ _ (show ((1 : Int32).toInt = 0 ∨ (1 : Int32).toInt = 1) from by omega) rfl dX10_isBlank_17
  · have tc_1 := t_neq c_1
    refine lv_iload_n hx hb dX10_isBlank_6 rfl (lv_at hl 0 rfl) ?_
    refine lv_bipush (v := 10) hx hb dX10_isBlank_7 (by decide) ?_
    refine lv_icmp_ne (tgt := 16) hx hb dX10_isBlank_9 (by decide) (fun c_2 => ?_) (fun c_2 => ?_)
    · have tc_2 := t_neq c_2
      refine lv_iconst (v := 0) hx hb dX10_isBlank_16 (by decide) ?_
      exact hret 0 _ _ (show ((0 : Int32).toInt = 0 ∨ (0 : Int32).toInt = 1) from by omega) rfl dX10_isBlank_17
    · have tc_2 := t_eq c_2
      refine lv_iconst (v := 1) hx hb dX10_isBlank_12 (by decide) ?_
      refine lv_goto (tgt := 17) hx hb dX10_isBlank_13 (by decide) ?_
      exact hret 1 _ _ (show ((1 : Int32).toInt = 0 ∨ (1 : Int32).toInt = 1) from by omega) rfl dX10_isBlank_17

set_option maxHeartbeats 8000000 in
set_option maxRecDepth 100000 in
theorem y_isLetter {l : Launch} {D : va_G} {cI cZ cB : ClassId} {v : Int32}  : Met l yX10_isLetter wsX10_isLetter ({ frames := 0, cells := 0, slots := 0, locals := 0 }) (RO D cI cZ cB [.int v] []) (vp_Si (fun r : Int32 => (r.toInt = 0 ∨ r.toInt = 1))) 0 0 (fun _ => False) := by
  refine ro_ret (cc := cX10_isLetter) (maxL := 1) (ty := .boolean) (own := RX10) (by decide) rfl rfl (Nat.le_of_ble_eq_true rfl) ?_
  intro p e s m args below meth c Q S hret hP hK ls hl
  obtain ⟨hx, hb, hml, hown, hts⟩ := id S
  have hl : lv_has ls 1 [(0, .int v)] := hl
  have kk0 : (0 : Int32).toInt = 0 := by decide
  have kk1 : (1 : Int32).toInt = 1 := by decide
  have kk97 : (97 : Int32).toInt = 97 := by decide
  have kk122 : (122 : Int32).toInt = 122 := by decide
  refine lv_iload_n hx hb dX10_isLetter_0 rfl (lv_at hl 0 rfl) ?_
  refine lv_bipush (v := 97) hx hb dX10_isLetter_1 (by decide) ?_
  refine lv_icmp_lt (tgt := 16) hx hb dX10_isLetter_3 (by decide) (fun c_1 => ?_) (fun c_1 => ?_)
  · have tc_1 := t_lt c_1
    refine lv_iconst (v := 0) hx hb dX10_isLetter_16 (by decide) ?_
    exact hret 0 _ _ (show ((0 : Int32).toInt = 0 ∨ (0 : Int32).toInt = 1) from by omega) rfl dX10_isLetter_17
  · have tc_1 := t_nlt c_1
    refine lv_iload_n hx hb dX10_isLetter_6 rfl (lv_at hl 0 rfl) ?_
    refine lv_bipush (v := 122) hx hb dX10_isLetter_7 (by decide) ?_
    refine lv_icmp_gt (tgt := 16) hx hb dX10_isLetter_9 (by decide) (fun c_2 => ?_) (fun c_2 => ?_)
    · have tc_2 := t_lt c_2
      refine lv_iconst (v := 0) hx hb dX10_isLetter_16 (by decide) ?_
      exact hret 0 _ _ (show ((0 : Int32).toInt = 0 ∨ (0 : Int32).toInt = 1) from by omega) rfl dX10_isLetter_17
    · have tc_2 := t_nlt c_2
      refine lv_iconst (v := 1) hx hb dX10_isLetter_12 (by decide) ?_
      refine lv_goto (tgt := 17) hx hb dX10_isLetter_13 (by decide) ?_
      exact hret 1 _ _ (show ((1 : Int32).toInt = 0 ∨ (1 : Int32).toInt = 1) from by omega) rfl dX10_isLetter_17

set_option maxHeartbeats 8000000 in
set_option maxRecDepth 100000 in
theorem y_isDigit {l : Launch} {D : va_G} {cI cZ cB : ClassId} {v : Int32}  : Met l yX10_isDigit wsX10_isDigit ({ frames := 0, cells := 0, slots := 0, locals := 0 }) (RO D cI cZ cB [.int v] []) (vp_Si (fun r : Int32 => (r.toInt = 0 ∨ r.toInt = 1))) 0 0 (fun _ => False) := by
  refine ro_ret (cc := cX10_isDigit) (maxL := 1) (ty := .boolean) (own := RX10) (by decide) rfl rfl (Nat.le_of_ble_eq_true rfl) ?_
  intro p e s m args below meth c Q S hret hP hK ls hl
  obtain ⟨hx, hb, hml, hown, hts⟩ := id S
  have hl : lv_has ls 1 [(0, .int v)] := hl
  have kk0 : (0 : Int32).toInt = 0 := by decide
  have kk1 : (1 : Int32).toInt = 1 := by decide
  have kk48 : (48 : Int32).toInt = 48 := by decide
  have kk57 : (57 : Int32).toInt = 57 := by decide
  refine lv_iload_n hx hb dX10_isDigit_0 rfl (lv_at hl 0 rfl) ?_
  refine lv_bipush (v := 48) hx hb dX10_isDigit_1 (by decide) ?_
  refine lv_icmp_lt (tgt := 16) hx hb dX10_isDigit_3 (by decide) (fun c_1 => ?_) (fun c_1 => ?_)
  · have tc_1 := t_lt c_1
    refine lv_iconst (v := 0) hx hb dX10_isDigit_16 (by decide) ?_
    exact hret 0 _ _ (show ((0 : Int32).toInt = 0 ∨ (0 : Int32).toInt = 1) from by omega) rfl dX10_isDigit_17
  · have tc_1 := t_nlt c_1
    refine lv_iload_n hx hb dX10_isDigit_6 rfl (lv_at hl 0 rfl) ?_
    refine lv_bipush (v := 57) hx hb dX10_isDigit_7 (by decide) ?_
    refine lv_icmp_gt (tgt := 16) hx hb dX10_isDigit_9 (by decide) (fun c_2 => ?_) (fun c_2 => ?_)
    · have tc_2 := t_lt c_2
      refine lv_iconst (v := 0) hx hb dX10_isDigit_16 (by decide) ?_
      exact hret 0 _ _ (show ((0 : Int32).toInt = 0 ∨ (0 : Int32).toInt = 1) from by omega) rfl dX10_isDigit_17
    · have tc_2 := t_nlt c_2
      refine lv_iconst (v := 1) hx hb dX10_isDigit_12 (by decide) ?_
      refine lv_goto (tgt := 17) hx hb dX10_isDigit_13 (by decide) ?_
      exact hret 1 _ _ (show ((1 : Int32).toInt = 0 ∨ (1 : Int32).toInt = 1) from by omega) rfl dX10_isDigit_17

set_option maxHeartbeats 8000000 in
set_option maxRecDepth 100000 in
theorem y_spells {l : Launch} {D : va_G} {cI cZ cB : ClassId} {adK adV : Nat → Nat} {ht ta_bytes : Nat} {tv_length : Int32} {tf_bytes : Nat → Int32} {a b : Int32} {i : Nat} (htv_length0 : 0 ≤ tv_length.toInt) (htv_length1 : tv_length.toInt ≤ 600) (hi : i < 7) : Met l yX10_spells wsX10_spells ({ frames := 4, cells := 0, slots := 0, locals := 85 }) (ROs D cI cZ cB adK adV [.ref ht, .int a, .int b, .ref (adK i)] [(ht, .inr (8, [.ref ta_bytes, .int tv_length])), (ta_bytes, .inl (cB, 600, .inl tf_bytes))]) (vp_Si (fun r : Int32 => (r.toInt = 0 ∨ r.toInt = 1))) 0 0 (fun _ => False) := by
  refine ros_ret (cc := cX10_spells) (maxL := 5) (ty := .boolean) (own := RX10) (by decide) rfl rfl (Nat.le_of_ble_eq_true rfl) ?_
  intro p e s m args below meth c Q S hret hP hK hZ ls hl
  obtain ⟨hx, hb, hml, hown, hts⟩ := id S
  have hl : lv_has ls 5 [(0, .ref ht), (1, .int a), (2, .int b), (3, .ref (adK i))] := hl
  have kk0 : (0 : Int32).toInt = 0 := by decide
  have kk1 : (1 : Int32).toInt = 1 := by decide
  have hsl := stLen_rg i hi
  refine lv_iload_n hx hb dX10_spells_0 rfl (lv_at hl 2 rfl) ?_
  refine lv_iload_n hx hb dX10_spells_1 rfl (lv_at hl 1 rfl) ?_
  refine lv_isub hx hb dX10_spells_2 ?_
  refine lv_topi (fun x_1 ex_1 => ?_)
  refine lv_aload_n hx hb dX10_spells_3 rfl (lv_at hl 3 rfl) ?_
  have hPc := hP.sub (ws' := []) [] rfl
  refine rosV (As := []) (rest := [.int x_1]) S (j_length  (by omega)) (cwV 0 hts gX10_spells_J0_length_8abf5 rfl rfl rfl (by decide +kernel) ⟨Nat.le_of_ble_eq_true rfl, Nat.le_of_ble_eq_true rfl⟩) hK hZ hPc (vk_recv hZ.1 (by omega) va_S.rf) rfl hl.1 rfl (Nat.le_of_ble_eq_true rfl) dX10_spells_4 ⟨Nat.le_of_ble_eq_true rfl, Nat.le_of_ble_eq_true rfl⟩ (fun r_l1 hw_l1 => ?_)
  have hw_l1 : r_l1.toInt = (stLen.getD i 0 : Nat) := hw_l1
  refine lv_icmp_eq (tgt := 12) hx hb dX10_spells_7 (by decide) (fun c_2 => ?_) (fun c_2 => ?_)
  · have tc_2 := t_eq c_2
    refine lv_iconst (v := 0) hx hb dX10_spells_12 (by decide) ?_
    refine lv_istore (lv' := [(4, .int 0), (0, .ref ht), (1, .int a), (2, .int b), (3, .ref (adK i))]) hx hb dX10_spells_13 hl (by decide) rfl (fun ls hl => ?_)
    have loop15 : ∀ (fuel : Nat) (j : Int32), (stLen.getD i 0 : Nat) - j.toInt < (fuel : Int) → (0 ≤ j.toInt) → (j.toInt ≤ (stLen.getD i 0 : Nat)) → ∀ ls : Array Slot, lv_has ls 5 [(4, .int j), (0, .ref ht), (1, .int a), (2, .int b), (3, .ref (adK i))] → W p l e ({ frames := 4, cells := 0, slots := 0, locals := 85 } : Room) s m args below meth c s.heap [] 0 0 Q (F0 m 15 ls []) := by
      intro fuel
      induction fuel with
      | zero =>
        intro j hmu hj0 hj1 ls hl
        exfalso; omega
      | succ fuel ih15 =>
        intro j hmu hj0 hj1 ls hl
        refine lv_iload hx hb dX10_spells_15 (lv_at hl 0 rfl) ?_
        refine lv_aload_n hx hb dX10_spells_17 rfl (lv_at hl 4 rfl) ?_
        have hPc := hP.sub (ws' := []) [] rfl
        refine rosV (As := []) (rest := [.int j]) S (j_length  (by omega)) (cwV 0 hts gX10_spells_J0_length_8abf5 rfl rfl rfl (by decide +kernel) ⟨Nat.le_of_ble_eq_true rfl, Nat.le_of_ble_eq_true rfl⟩) hK hZ hPc (vk_recv hZ.1 (by omega) va_S.rf) rfl hl.1 rfl (Nat.le_of_ble_eq_true rfl) dX10_spells_18 ⟨Nat.le_of_ble_eq_true rfl, Nat.le_of_ble_eq_true rfl⟩ (fun r_l2 hw_l2 => ?_)
        have hw_l2 : r_l2.toInt = (stLen.getD i 0 : Nat) := hw_l2
        refine lv_icmp_ge (tgt := 49) hx hb dX10_spells_21 (by decide) (fun c_3 => ?_) (fun c_3 => ?_)
        · have tc_3 := t_le c_3
          refine lv_iconst (v := 1) hx hb dX10_spells_49 (by decide) ?_
          exact hret 1 _ _ (show ((1 : Int32).toInt = 0 ∨ (1 : Int32).toInt = 1) from by omega) rfl dX10_spells_50
        · have tc_3 := t_nle c_3
          refine lv_aload_n hx hb dX10_spells_24 rfl (lv_at hl 1 rfl) ?_
          refine lv_iload_n hx hb dX10_spells_25 rfl (lv_at hl 2 rfl) ?_
          refine lv_iload hx hb dX10_spells_26 (lv_at hl 0 rfl) ?_
          refine lv_iadd hx hb dX10_spells_28 ?_
          refine lv_topi (fun x_4 ex_4 => ?_)
          have hPc := hP.sub (ws' := [(ht, .inr (8, [.ref ta_bytes, .int tv_length])), (ta_bytes, .inl (cB, 600, .inl tf_bytes))]) [0, 1] rfl
          refine roV (As := [.int x_4]) (rest := []) S (t_byteAt  (by omega) (by omega)) (cwV 1 hts gX10_spells_X9_byteAt rfl rfl rfl ⟨rfl, hd_X9_byteAt⟩ ⟨Nat.le_of_ble_eq_true rfl, Nat.le_of_ble_eq_true rfl⟩) hK hPc (va_recv hK.1 hPc (ci := 8) (q0 := 0) rfl rfl) rfl hl.1 rfl (Nat.le_of_ble_eq_true rfl) dX10_spells_29 ⟨Nat.le_of_ble_eq_true rfl, Nat.le_of_ble_eq_true rfl⟩ (fun r_5 hw_5 => ?_)
          have hw_5 : True := hw_5
          refine lv_aload_n hx hb dX10_spells_32 rfl (lv_at hl 4 rfl) ?_
          refine lv_iload hx hb dX10_spells_33 (lv_at hl 0 rfl) ?_
          have hPc := hP.sub (ws' := []) [] rfl
          refine rosV (As := [.int j]) (rest := [.int r_5]) S (j_charAt  (by omega) (by omega) (by omega)) (cwV 1 hts gX10_spells_J0_charAt_5068e rfl rfl rfl (by decide +kernel) ⟨Nat.le_of_ble_eq_true rfl, Nat.le_of_ble_eq_true rfl⟩) hK hZ hPc (vk_recv hZ.1 (by omega) va_S.rf) rfl hl.1 rfl (Nat.le_of_ble_eq_true rfl) dX10_spells_35 ⟨Nat.le_of_ble_eq_true rfl, Nat.le_of_ble_eq_true rfl⟩ (fun r_6 hw_6 => ?_)
          have hw_6 : True := hw_6
          refine lv_icmp_eq (tgt := 43) hx hb dX10_spells_38 (by decide) (fun c_7 => ?_) (fun c_7 => ?_)
          · have tc_7 := t_eq c_7
            obtain ⟨x_8, ex_8⟩ : ∃ y : Int32, y = j + 1 := ⟨_, rfl⟩
            refine lv_iinc (v := x_8) (lv' := [(4, .int x_8), (0, .ref ht), (1, .int a), (2, .int b), (3, .ref (adK i))]) hx hb dX10_spells_43 hl (k := 0) rfl (by rw [ex_8]; rfl) (by decide) rfl (fun ls hl => ?_)
            first | have tx_8 := t_add ex_8 (by omega) (by omega) | skip
            refine lv_goto (tgt := 15) hx hb dX10_spells_46 (by decide) ?_
            exact ih15 x_8 (by omega) (by omega) (by omega) ls (lv_sub hl [0, 1, 2, 3, 4] rfl)
          · have tc_7 := t_neq c_7
            refine lv_iconst (v := 0) hx hb dX10_spells_41 (by decide) ?_
            exact hret 0 _ _ (show ((0 : Int32).toInt = 0 ∨ (0 : Int32).toInt = 1) from by omega) rfl dX10_spells_42
    exact loop15 (((stLen.getD i 0 : Nat) - (0 : Int32).toInt).toNat + 1) 0 (by omega) (by omega) (by omega) ls (lv_sub hl [0, 1, 2, 3, 4] rfl)
  · have tc_2 := t_neq c_2
    refine lv_iconst (v := 0) hx hb dX10_spells_10 (by decide) ?_
    exact hret 0 _ _ (show ((0 : Int32).toInt = 0 ∨ (0 : Int32).toInt = 1) from by omega) rfl dX10_spells_11

set_option maxHeartbeats 8000000 in
set_option maxRecDepth 100000 in
theorem y_wordOf {l : Launch} {D : va_G} {cI cZ cB : ClassId} {adK adV : Nat → Nat} {ht ta_bytes : Nat} {tv_length : Int32} {tf_bytes : Nat → Int32} {a b : Int32} (htv_length0 : 0 ≤ tv_length.toInt) (htv_length1 : tv_length.toInt ≤ 600) : Met l yX10_wordOf wsX10_wordOf ({ frames := 5, cells := 0, slots := 0, locals := 109 }) (ROs D cI cZ cB adK adV [.ref ht, .int a, .int b] [(ht, .inr (8, [.ref ta_bytes, .int tv_length])), (ta_bytes, .inl (cB, 600, .inl tf_bytes))]) (vp_Si (fun r : Int32 => True)) 0 0 (fun _ => False) := by
  refine ros_ret (cc := cX10_wordOf) (maxL := 3) (ty := .int) (own := RX10) (by decide) rfl rfl (Nat.le_of_ble_eq_true rfl) ?_
  intro p e s m args below meth c Q S hret hP hK hZ ls hl
  obtain ⟨hx, hb, hml, hown, hts⟩ := id S
  have hl : lv_has ls 3 [(0, .ref ht), (1, .int a), (2, .int b)] := hl
  have kk0 : (0 : Int32).toInt = 0 := by decide
  have kk1 : (1 : Int32).toInt = 1 := by decide
  have kk4 : (4 : Int32).toInt = 4 := by decide
  have kk5 : (5 : Int32).toInt = 5 := by decide
  have kk6 : (6 : Int32).toInt = 6 := by decide
  have kk7 : (7 : Int32).toInt = 7 := by decide
  have kk8 : (8 : Int32).toInt = 8 := by decide
  have kk9 : (9 : Int32).toInt = 9 := by decide
  have kk10 : (10 : Int32).toInt = 10 := by decide
  refine lv_aload_n hx hb dX10_wordOf_0 rfl (lv_at hl 0 rfl) ?_
  refine lv_iload_n hx hb dX10_wordOf_1 rfl (lv_at hl 1 rfl) ?_
  refine lv_iload_n hx hb dX10_wordOf_2 rfl (lv_at hl 2 rfl) ?_
  refine va_ldcS hx hb hown hZ.2.2.2.1 dX10_wordOf_3 ?_
  have hPc := hP.sub (ws' := [(ht, .inr (8, [.ref ta_bytes, .int tv_length])), (ta_bytes, .inl (cB, 600, .inl tf_bytes))]) [0, 1] rfl
  refine rosS (As := [.ref ht, .int a, .int b, .ref (adK 0)]) (rest := []) S (y_spells  (by omega) (by omega) (by omega)) (va_cwS 4 hts gX10_wordOf_X10_spells rfl rfl rfl hd_X10_spells ⟨Nat.le_of_ble_eq_true rfl, Nat.le_of_ble_eq_true rfl⟩) hK hZ hPc rfl hl.1 rfl (Nat.le_of_ble_eq_true rfl) dX10_wordOf_5 ⟨Nat.le_of_ble_eq_true rfl, Nat.le_of_ble_eq_true rfl⟩ (fun r_1 hw_1 => ?_)
  have hw_1 : (r_1.toInt = 0 ∨ r_1.toInt = 1) := hw_1
  refine lv_if_eq (tgt := 13) hx hb dX10_wordOf_8 (by decide) (fun c_2 => ?_) (fun c_2 => ?_)
  · have tc_2 := t_eq c_2
    refine lv_aload_n hx hb dX10_wordOf_13 rfl (lv_at hl 0 rfl) ?_
    refine lv_iload_n hx hb dX10_wordOf_14 rfl (lv_at hl 1 rfl) ?_
    refine lv_iload_n hx hb dX10_wordOf_15 rfl (lv_at hl 2 rfl) ?_
    refine va_ldcS hx hb hown hZ.2.2.2.2.1 dX10_wordOf_16 ?_
    have hPc := hP.sub (ws' := [(ht, .inr (8, [.ref ta_bytes, .int tv_length])), (ta_bytes, .inl (cB, 600, .inl tf_bytes))]) [0, 1] rfl
    refine rosS (As := [.ref ht, .int a, .int b, .ref (adK 1)]) (rest := []) S (y_spells  (by omega) (by omega) (by omega)) (va_cwS 4 hts gX10_wordOf_X10_spells rfl rfl rfl hd_X10_spells ⟨Nat.le_of_ble_eq_true rfl, Nat.le_of_ble_eq_true rfl⟩) hK hZ hPc rfl hl.1 rfl (Nat.le_of_ble_eq_true rfl) dX10_wordOf_18 ⟨Nat.le_of_ble_eq_true rfl, Nat.le_of_ble_eq_true rfl⟩ (fun r_3 hw_3 => ?_)
    have hw_3 : (r_3.toInt = 0 ∨ r_3.toInt = 1) := hw_3
    refine lv_if_eq (tgt := 26) hx hb dX10_wordOf_21 (by decide) (fun c_4 => ?_) (fun c_4 => ?_)
    · have tc_4 := t_eq c_4
      refine lv_aload_n hx hb dX10_wordOf_26 rfl (lv_at hl 0 rfl) ?_
      refine lv_iload_n hx hb dX10_wordOf_27 rfl (lv_at hl 1 rfl) ?_
      refine lv_iload_n hx hb dX10_wordOf_28 rfl (lv_at hl 2 rfl) ?_
      refine va_ldcS hx hb hown hZ.2.2.2.2.2.1 dX10_wordOf_29 ?_
      have hPc := hP.sub (ws' := [(ht, .inr (8, [.ref ta_bytes, .int tv_length])), (ta_bytes, .inl (cB, 600, .inl tf_bytes))]) [0, 1] rfl
      refine rosS (As := [.ref ht, .int a, .int b, .ref (adK 2)]) (rest := []) S (y_spells  (by omega) (by omega) (by omega)) (va_cwS 4 hts gX10_wordOf_X10_spells rfl rfl rfl hd_X10_spells ⟨Nat.le_of_ble_eq_true rfl, Nat.le_of_ble_eq_true rfl⟩) hK hZ hPc rfl hl.1 rfl (Nat.le_of_ble_eq_true rfl) dX10_wordOf_31 ⟨Nat.le_of_ble_eq_true rfl, Nat.le_of_ble_eq_true rfl⟩ (fun r_5 hw_5 => ?_)
      have hw_5 : (r_5.toInt = 0 ∨ r_5.toInt = 1) := hw_5
      refine lv_if_eq (tgt := 40) hx hb dX10_wordOf_34 (by decide) (fun c_6 => ?_) (fun c_6 => ?_)
      · have tc_6 := t_eq c_6
        refine lv_aload_n hx hb dX10_wordOf_40 rfl (lv_at hl 0 rfl) ?_
        refine lv_iload_n hx hb dX10_wordOf_41 rfl (lv_at hl 1 rfl) ?_
        refine lv_iload_n hx hb dX10_wordOf_42 rfl (lv_at hl 2 rfl) ?_
        refine va_ldcS hx hb hown hZ.2.2.2.2.2.2.1 dX10_wordOf_43 ?_
        have hPc := hP.sub (ws' := [(ht, .inr (8, [.ref ta_bytes, .int tv_length])), (ta_bytes, .inl (cB, 600, .inl tf_bytes))]) [0, 1] rfl
        refine rosS (As := [.ref ht, .int a, .int b, .ref (adK 3)]) (rest := []) S (y_spells  (by omega) (by omega) (by omega)) (va_cwS 4 hts gX10_wordOf_X10_spells rfl rfl rfl hd_X10_spells ⟨Nat.le_of_ble_eq_true rfl, Nat.le_of_ble_eq_true rfl⟩) hK hZ hPc rfl hl.1 rfl (Nat.le_of_ble_eq_true rfl) dX10_wordOf_45 ⟨Nat.le_of_ble_eq_true rfl, Nat.le_of_ble_eq_true rfl⟩ (fun r_7 hw_7 => ?_)
        have hw_7 : (r_7.toInt = 0 ∨ r_7.toInt = 1) := hw_7
        refine lv_if_eq (tgt := 54) hx hb dX10_wordOf_48 (by decide) (fun c_8 => ?_) (fun c_8 => ?_)
        · have tc_8 := t_eq c_8
          refine lv_aload_n hx hb dX10_wordOf_54 rfl (lv_at hl 0 rfl) ?_
          refine lv_iload_n hx hb dX10_wordOf_55 rfl (lv_at hl 1 rfl) ?_
          refine lv_iload_n hx hb dX10_wordOf_56 rfl (lv_at hl 2 rfl) ?_
          refine va_ldcS hx hb hown hZ.2.2.2.2.2.2.2.1 dX10_wordOf_57 ?_
          have hPc := hP.sub (ws' := [(ht, .inr (8, [.ref ta_bytes, .int tv_length])), (ta_bytes, .inl (cB, 600, .inl tf_bytes))]) [0, 1] rfl
          refine rosS (As := [.ref ht, .int a, .int b, .ref (adK 4)]) (rest := []) S (y_spells  (by omega) (by omega) (by omega)) (va_cwS 4 hts gX10_wordOf_X10_spells rfl rfl rfl hd_X10_spells ⟨Nat.le_of_ble_eq_true rfl, Nat.le_of_ble_eq_true rfl⟩) hK hZ hPc rfl hl.1 rfl (Nat.le_of_ble_eq_true rfl) dX10_wordOf_59 ⟨Nat.le_of_ble_eq_true rfl, Nat.le_of_ble_eq_true rfl⟩ (fun r_9 hw_9 => ?_)
          have hw_9 : (r_9.toInt = 0 ∨ r_9.toInt = 1) := hw_9
          refine lv_if_eq (tgt := 68) hx hb dX10_wordOf_62 (by decide) (fun c_10 => ?_) (fun c_10 => ?_)
          · have tc_10 := t_eq c_10
            refine lv_aload_n hx hb dX10_wordOf_68 rfl (lv_at hl 0 rfl) ?_
            refine lv_iload_n hx hb dX10_wordOf_69 rfl (lv_at hl 1 rfl) ?_
            refine lv_iload_n hx hb dX10_wordOf_70 rfl (lv_at hl 2 rfl) ?_
            refine va_ldcS hx hb hown hZ.2.2.2.2.2.2.2.2.1 dX10_wordOf_71 ?_
            have hPc := hP.sub (ws' := [(ht, .inr (8, [.ref ta_bytes, .int tv_length])), (ta_bytes, .inl (cB, 600, .inl tf_bytes))]) [0, 1] rfl
            refine rosS (As := [.ref ht, .int a, .int b, .ref (adK 5)]) (rest := []) S (y_spells  (by omega) (by omega) (by omega)) (va_cwS 4 hts gX10_wordOf_X10_spells rfl rfl rfl hd_X10_spells ⟨Nat.le_of_ble_eq_true rfl, Nat.le_of_ble_eq_true rfl⟩) hK hZ hPc rfl hl.1 rfl (Nat.le_of_ble_eq_true rfl) dX10_wordOf_73 ⟨Nat.le_of_ble_eq_true rfl, Nat.le_of_ble_eq_true rfl⟩ (fun r_11 hw_11 => ?_)
            have hw_11 : (r_11.toInt = 0 ∨ r_11.toInt = 1) := hw_11
            refine lv_if_eq (tgt := 82) hx hb dX10_wordOf_76 (by decide) (fun c_12 => ?_) (fun c_12 => ?_)
            · have tc_12 := t_eq c_12
              refine lv_aload_n hx hb dX10_wordOf_82 rfl (lv_at hl 0 rfl) ?_
              refine lv_iload_n hx hb dX10_wordOf_83 rfl (lv_at hl 1 rfl) ?_
              refine lv_iload_n hx hb dX10_wordOf_84 rfl (lv_at hl 2 rfl) ?_
              refine va_ldcS hx hb hown hZ.2.2.2.2.2.2.2.2.2 dX10_wordOf_85 ?_
              have hPc := hP.sub (ws' := [(ht, .inr (8, [.ref ta_bytes, .int tv_length])), (ta_bytes, .inl (cB, 600, .inl tf_bytes))]) [0, 1] rfl
              refine rosS (As := [.ref ht, .int a, .int b, .ref (adK 6)]) (rest := []) S (y_spells  (by omega) (by omega) (by omega)) (va_cwS 4 hts gX10_wordOf_X10_spells rfl rfl rfl hd_X10_spells ⟨Nat.le_of_ble_eq_true rfl, Nat.le_of_ble_eq_true rfl⟩) hK hZ hPc rfl hl.1 rfl (Nat.le_of_ble_eq_true rfl) dX10_wordOf_87 ⟨Nat.le_of_ble_eq_true rfl, Nat.le_of_ble_eq_true rfl⟩ (fun r_13 hw_13 => ?_)
              have hw_13 : (r_13.toInt = 0 ∨ r_13.toInt = 1) := hw_13
              refine lv_if_eq (tgt := 98) hx hb dX10_wordOf_90 (by decide) (fun c_14 => ?_) (fun c_14 => ?_)
              · have tc_14 := t_eq c_14
                refine lv_iconst (v := 1) hx hb dX10_wordOf_98 (by decide) ?_
                exact hret 1 _ _ (show True from trivial) rfl dX10_wordOf_99
              · have tc_14 := t_neq c_14
                refine lv_bipush (v := 10) hx hb dX10_wordOf_93 (by decide) ?_
                refine lv_goto (tgt := 99) hx hb dX10_wordOf_95 (by decide) ?_
                exact hret 10 _ _ (show True from trivial) rfl dX10_wordOf_99
            · have tc_12 := t_neq c_12
              refine lv_bipush (v := 9) hx hb dX10_wordOf_79 (by decide) ?_
              exact hret 9 _ _ (show True from trivial) rfl dX10_wordOf_81
          · have tc_10 := t_neq c_10
            refine lv_bipush (v := 8) hx hb dX10_wordOf_65 (by decide) ?_
            exact hret 8 _ _ (show True from trivial) rfl dX10_wordOf_67
        · have tc_8 := t_neq c_8
          refine lv_bipush (v := 7) hx hb dX10_wordOf_51 (by decide) ?_
          exact hret 7 _ _ (show True from trivial) rfl dX10_wordOf_53
      · have tc_6 := t_neq c_6
        refine lv_bipush (v := 6) hx hb dX10_wordOf_37 (by decide) ?_
        exact hret 6 _ _ (show True from trivial) rfl dX10_wordOf_39
    · have tc_4 := t_neq c_4
      refine lv_iconst (v := 5) hx hb dX10_wordOf_24 (by decide) ?_
      exact hret 5 _ _ (show True from trivial) rfl dX10_wordOf_25
  · have tc_2 := t_neq c_2
    refine lv_iconst (v := 4) hx hb dX10_wordOf_11 (by decide) ?_
    exact hret 4 _ _ (show True from trivial) rfl dX10_wordOf_12

set_option maxHeartbeats 8000000 in
set_option maxRecDepth 100000 in
theorem y_kindOf {l : Launch} {D : va_G} {cI cZ cB : ClassId} {adK adV : Nat → Nat} {ht ta_bytes : Nat} {tv_length : Int32} {tf_bytes : Nat → Int32} {a b : Int32} (htv_length0 : 0 ≤ tv_length.toInt) (htv_length1 : tv_length.toInt ≤ 600) : Met l yX10_kindOf wsX10_kindOf ({ frames := 6, cells := 0, slots := 0, locals := 131 }) (ROs D cI cZ cB adK adV [.ref ht, .int a, .int b] [(ht, .inr (8, [.ref ta_bytes, .int tv_length])), (ta_bytes, .inl (cB, 600, .inl tf_bytes))]) (vp_Si (fun r : Int32 => True)) 0 0 (fun _ => False) := by
  refine ros_ret (cc := cX10_kindOf) (maxL := 4) (ty := .int) (own := RX10) (by decide) rfl rfl (Nat.le_of_ble_eq_true rfl) ?_
  intro p e s m args below meth c Q S hret hP hK hZ ls hl
  obtain ⟨hx, hb, hml, hown, hts⟩ := id S
  have hl : lv_has ls 4 [(0, .ref ht), (1, .int a), (2, .int b)] := hl
  have kk0 : (0 : Int32).toInt = 0 := by decide
  have kk1 : (1 : Int32).toInt = 1 := by decide
  have kk2 : (2 : Int32).toInt = 2 := by decide
  have kk3 : (3 : Int32).toInt = 3 := by decide
  have kk59 : (59 : Int32).toInt = 59 := by decide
  refine lv_aload_n hx hb dX10_kindOf_0 rfl (lv_at hl 0 rfl) ?_
  refine lv_iload_n hx hb dX10_kindOf_1 rfl (lv_at hl 1 rfl) ?_
  have hPc := hP.sub (ws' := [(ht, .inr (8, [.ref ta_bytes, .int tv_length])), (ta_bytes, .inl (cB, 600, .inl tf_bytes))]) [0, 1] rfl
  refine roV (As := [.int a]) (rest := []) S (t_byteAt  (by omega) (by omega)) (cwV 1 hts gX10_kindOf_X9_byteAt rfl rfl rfl ⟨rfl, hd_X9_byteAt⟩ ⟨Nat.le_of_ble_eq_true rfl, Nat.le_of_ble_eq_true rfl⟩) hK hPc (va_recv hK.1 hPc (ci := 8) (q0 := 0) rfl rfl) rfl hl.1 rfl (Nat.le_of_ble_eq_true rfl) dX10_kindOf_2 ⟨Nat.le_of_ble_eq_true rfl, Nat.le_of_ble_eq_true rfl⟩ (fun r_1 hw_1 => ?_)
  have hw_1 : True := hw_1
  refine lv_istore_n (lv' := [(3, .int r_1), (0, .ref ht), (1, .int a), (2, .int b)]) hx hb dX10_kindOf_5 rfl hl (by decide) rfl (fun ls hl => ?_)
  refine lv_iload_n hx hb dX10_kindOf_6 rfl (lv_at hl 0 rfl) ?_
  have hPc := hP.sub (ws' := []) [] rfl
  refine roS (As := [.int r_1]) (rest := []) S (y_isLetter  ) (va_cwS 1 hts gX10_kindOf_X10_isLetter rfl rfl rfl hd_X10_isLetter ⟨Nat.le_of_ble_eq_true rfl, Nat.le_of_ble_eq_true rfl⟩) hK hPc rfl hl.1 rfl (Nat.le_of_ble_eq_true rfl) dX10_kindOf_7 ⟨Nat.le_of_ble_eq_true rfl, Nat.le_of_ble_eq_true rfl⟩ (fun r_2 hw_2 => ?_)
  have hw_2 : (r_2.toInt = 0 ∨ r_2.toInt = 1) := hw_2
  refine lv_if_eq (tgt := 20) hx hb dX10_kindOf_10 (by decide) (fun c_3 => ?_) (fun c_3 => ?_)
  · have tc_3 := t_eq c_3
    refine lv_iload_n hx hb dX10_kindOf_20 rfl (lv_at hl 0 rfl) ?_
    have hPc := hP.sub (ws' := []) [] rfl
    refine roS (As := [.int r_1]) (rest := []) S (y_isDigit  ) (va_cwS 1 hts gX10_kindOf_X10_isDigit rfl rfl rfl hd_X10_isDigit ⟨Nat.le_of_ble_eq_true rfl, Nat.le_of_ble_eq_true rfl⟩) hK hPc rfl hl.1 rfl (Nat.le_of_ble_eq_true rfl) dX10_kindOf_21 ⟨Nat.le_of_ble_eq_true rfl, Nat.le_of_ble_eq_true rfl⟩ (fun r_4 hw_4 => ?_)
    have hw_4 : (r_4.toInt = 0 ∨ r_4.toInt = 1) := hw_4
    refine lv_if_eq (tgt := 40) hx hb dX10_kindOf_24 (by decide) (fun c_5 => ?_) (fun c_5 => ?_)
    · have tc_5 := t_eq c_5
      refine lv_iload_n hx hb dX10_kindOf_40 rfl (lv_at hl 0 rfl) ?_
      refine lv_bipush (v := 59) hx hb dX10_kindOf_41 (by decide) ?_
      refine lv_icmp_ne (tgt := 50) hx hb dX10_kindOf_43 (by decide) (fun c_6 => ?_) (fun c_6 => ?_)
      · have tc_6 := t_neq c_6
        refine lv_iconst (v := 1) hx hb dX10_kindOf_50 (by decide) ?_
        exact hret 1 _ _ (show True from trivial) rfl dX10_kindOf_51
      · have tc_6 := t_eq c_6
        refine lv_iconst (v := 2) hx hb dX10_kindOf_46 (by decide) ?_
        refine lv_goto (tgt := 51) hx hb dX10_kindOf_47 (by decide) ?_
        exact hret 2 _ _ (show True from trivial) rfl dX10_kindOf_51
    · have tc_5 := t_neq c_5
      refine lv_iload_n hx hb dX10_kindOf_27 rfl (lv_at hl 3 rfl) ?_
      refine lv_iload_n hx hb dX10_kindOf_28 rfl (lv_at hl 2 rfl) ?_
      refine lv_isub hx hb dX10_kindOf_29 ?_
      refine lv_topi (fun x_7 ex_7 => ?_)
      refine lv_iconst (v := 3) hx hb dX10_kindOf_30 (by decide) ?_
      refine lv_icmp_gt (tgt := 38) hx hb dX10_kindOf_31 (by decide) (fun c_8 => ?_) (fun c_8 => ?_)
      · have tc_8 := t_lt c_8
        refine lv_iconst (v := 1) hx hb dX10_kindOf_38 (by decide) ?_
        exact hret 1 _ _ (show True from trivial) rfl dX10_kindOf_39
      · have tc_8 := t_nlt c_8
        refine lv_iconst (v := 3) hx hb dX10_kindOf_34 (by decide) ?_
        refine lv_goto (tgt := 39) hx hb dX10_kindOf_35 (by decide) ?_
        exact hret 3 _ _ (show True from trivial) rfl dX10_kindOf_39
  · have tc_3 := t_neq c_3
    refine lv_aload_n hx hb dX10_kindOf_13 rfl (lv_at hl 1 rfl) ?_
    refine lv_iload_n hx hb dX10_kindOf_14 rfl (lv_at hl 2 rfl) ?_
    refine lv_iload_n hx hb dX10_kindOf_15 rfl (lv_at hl 3 rfl) ?_
    have hPc := hP.sub (ws' := [(ht, .inr (8, [.ref ta_bytes, .int tv_length])), (ta_bytes, .inl (cB, 600, .inl tf_bytes))]) [0, 1] rfl
    refine rosS (As := [.ref ht, .int a, .int b]) (rest := []) S (y_wordOf  (by omega) (by omega)) (va_cwS 3 hts gX10_kindOf_X10_wordOf rfl rfl rfl hd_X10_wordOf ⟨Nat.le_of_ble_eq_true rfl, Nat.le_of_ble_eq_true rfl⟩) hK hZ hPc rfl hl.1 rfl (Nat.le_of_ble_eq_true rfl) dX10_kindOf_16 ⟨Nat.le_of_ble_eq_true rfl, Nat.le_of_ble_eq_true rfl⟩ (fun r_9 hw_9 => ?_)
    have hw_9 : True := hw_9
    exact hret r_9 _ _ (show True from trivial) rfl dX10_kindOf_19

set_option maxHeartbeats 8000000 in
set_option maxRecDepth 100000 in
theorem y_numberOf {l : Launch} {D : va_G} {cI cZ cB : ClassId} {ht ta_bytes : Nat} {tv_length : Int32} {tf_bytes : Nat → Int32} {a b : Int32} (htv_length0 : 0 ≤ tv_length.toInt) (htv_length1 : tv_length.toInt ≤ 600) (ha0 : 0 ≤ a.toInt) (hb1 : b.toInt ≤ 601) : Met l yX10_numberOf wsX10_numberOf ({ frames := 1, cells := 0, slots := 0, locals := 21 }) (RO D cI cZ cB [.ref ht, .int a, .int b] [(ht, .inr (8, [.ref ta_bytes, .int tv_length])), (ta_bytes, .inl (cB, 600, .inl tf_bytes))]) (vp_Si (fun r : Int32 => True)) 0 0 (fun _ => False) := by
  refine ro_ret (cc := cX10_numberOf) (maxL := 5) (ty := .int) (own := RX10) (by decide) rfl rfl (Nat.le_of_ble_eq_true rfl) ?_
  intro p e s m args below meth c Q S hret hP hK ls hl
  obtain ⟨hx, hb, hml, hown, hts⟩ := id S
  have hl : lv_has ls 5 [(0, .ref ht), (1, .int a), (2, .int b)] := hl
  have kk0 : (0 : Int32).toInt = 0 := by decide
  have kk1 : (1 : Int32).toInt = 1 := by decide
  have kk10 : (10 : Int32).toInt = 10 := by decide
  have kk48 : (48 : Int32).toInt = 48 := by decide
  refine lv_iconst (v := 0) hx hb dX10_numberOf_0 (by decide) ?_
  refine lv_istore_n (lv' := [(3, .int 0), (0, .ref ht), (1, .int a), (2, .int b)]) hx hb dX10_numberOf_1 rfl hl (by decide) rfl (fun ls hl => ?_)
  refine lv_iload_n hx hb dX10_numberOf_2 rfl (lv_at hl 2 rfl) ?_
  refine lv_istore (lv' := [(4, .int a), (3, .int 0), (0, .ref ht), (1, .int a), (2, .int b)]) hx hb dX10_numberOf_3 hl (by decide) rfl (fun ls hl => ?_)
  have loop5 : ∀ (fuel : Nat) (v : Int32) (j : Int32), (((b.toInt - j.toInt).toNat : Nat) : Int) < (fuel : Int) → (0 ≤ j.toInt) → ∀ ls : Array Slot, lv_has ls 5 [(4, .int j), (3, .int v), (0, .ref ht), (1, .int a), (2, .int b)] → W p l e ({ frames := 1, cells := 0, slots := 0, locals := 21 } : Room) s m args below meth c s.heap [] 0 0 Q (F0 m 5 ls []) := by
    intro fuel
    induction fuel with
    | zero =>
      intro v j hmu hj0 ls hl
      exfalso; omega
    | succ fuel ih5 =>
      intro v j hmu hj0 ls hl
      refine lv_iload hx hb dX10_numberOf_5 (lv_at hl 0 rfl) ?_
      refine lv_iload_n hx hb dX10_numberOf_7 rfl (lv_at hl 4 rfl) ?_
      refine lv_icmp_ge (tgt := 32) hx hb dX10_numberOf_8 (by decide) (fun c_1 => ?_) (fun c_1 => ?_)
      · have tc_1 := t_le c_1
        refine lv_iload_n hx hb dX10_numberOf_32 rfl (lv_at hl 1 rfl) ?_
        exact hret v _ _ (show True from trivial) rfl dX10_numberOf_33
      · have tc_1 := t_nle c_1
        refine lv_iload_n hx hb dX10_numberOf_11 rfl (lv_at hl 1 rfl) ?_
        refine lv_bipush (v := 10) hx hb dX10_numberOf_12 (by decide) ?_
        refine lv_imul hx hb dX10_numberOf_14 ?_
        refine lv_topi (fun x_2 ex_2 => ?_)
        refine lv_aload_n hx hb dX10_numberOf_15 rfl (lv_at hl 2 rfl) ?_
        refine lv_iload hx hb dX10_numberOf_16 (lv_at hl 0 rfl) ?_
        have hPc := hP.sub (ws' := [(ht, .inr (8, [.ref ta_bytes, .int tv_length])), (ta_bytes, .inl (cB, 600, .inl tf_bytes))]) [0, 1] rfl
        refine roV (As := [.int j]) (rest := [.int x_2]) S (t_byteAt  (by omega) (by omega)) (cwV 1 hts gX10_numberOf_X9_byteAt rfl rfl rfl ⟨rfl, hd_X9_byteAt⟩ ⟨Nat.le_of_ble_eq_true rfl, Nat.le_of_ble_eq_true rfl⟩) hK hPc (va_recv hK.1 hPc (ci := 8) (q0 := 0) rfl rfl) rfl hl.1 rfl (Nat.le_of_ble_eq_true rfl) dX10_numberOf_18 ⟨Nat.le_of_ble_eq_true rfl, Nat.le_of_ble_eq_true rfl⟩ (fun r_3 hw_3 => ?_)
        have hw_3 : True := hw_3
        refine lv_iadd hx hb dX10_numberOf_21 ?_
        refine lv_topi (fun x_4 ex_4 => ?_)
        refine lv_bipush (v := 48) hx hb dX10_numberOf_22 (by decide) ?_
        refine lv_isub hx hb dX10_numberOf_24 ?_
        refine lv_topi (fun x_5 ex_5 => ?_)
        refine lv_istore_n (lv' := [(3, .int x_5), (4, .int j), (0, .ref ht), (1, .int a), (2, .int b)]) hx hb dX10_numberOf_25 rfl hl (by decide) rfl (fun ls hl => ?_)
        obtain ⟨x_6, ex_6⟩ : ∃ y : Int32, y = j + 1 := ⟨_, rfl⟩
        refine lv_iinc (v := x_6) (lv' := [(4, .int x_6), (3, .int x_5), (0, .ref ht), (1, .int a), (2, .int b)]) hx hb dX10_numberOf_26 hl (k := 1) rfl (by rw [ex_6]; rfl) (by decide) rfl (fun ls hl => ?_)
        first | have tx_6 := t_add ex_6 (by omega) (by omega) | skip
        refine lv_goto (tgt := 5) hx hb dX10_numberOf_29 (by decide) ?_
        exact ih5 x_5 x_6 (by omega) (by omega) ls (lv_sub hl [0, 1, 2, 3, 4] rfl)
  exact loop5 (((((b.toInt - a.toInt).toNat : Nat) : Int)).toNat + 1) 0 a (by omega) (by omega) ls (lv_sub hl [0, 1, 2, 3, 4] rfl)

theorem in_y_endOf_X10 : ∀ w ∈ wsX100, w ∈ wsX10_endOfToken := tl_X10_endOfToken_X10
set_option maxHeartbeats 8000000 in
set_option maxRecDepth 100000 in
theorem y_endOf {l : Launch} {D : va_G} {cI cZ cB : ClassId} {h a_kinds a_places a_values ht ta_bytes : Nat} {v_size v_textLength tv_length : Int32} {tf_bytes : Nat → Int32} {a : Int32} (htv_length0 : 0 ≤ tv_length.toInt) (htv_length1 : tv_length.toInt ≤ 600) (hf0 : 0 ≤ a.toInt) (hf1 : a.toInt < v_textLength.toInt) (hf2 : v_textLength.toInt ≤ 600) : Met l yX10_endOfToken wsX10_endOfToken ({ frames := 1, cells := 0, slots := 0, locals := 21 }) (RO D cI cZ cB [.ref h, .ref ht, .int a] [(h, .inr (9, [.ref a_kinds, .ref a_places, .ref a_values, .int v_size, .int v_textLength])), (ht, .inr (8, [.ref ta_bytes, .int tv_length])), (ta_bytes, .inl (cB, 600, .inl tf_bytes))]) (vp_Si (fun r : Int32 => a.toInt < r.toInt ∧ r.toInt ≤ v_textLength.toInt)) 0 0 (fun _ => False) := by
  refine ro_ret (cc := cX10_endOfToken) (maxL := 4) (ty := .int) (own := RX10) (by decide) rfl rfl (Nat.le_of_ble_eq_true rfl) ?_
  intro p e s m args below meth c Q S hret hP hK ls hl
  obtain ⟨hx, hb, hml, hown, hts⟩ := id S
  have hl : lv_has ls 4 [(0, .ref h), (1, .ref ht), (2, .int a)] := hl
  have kk0 : (0 : Int32).toInt = 0 := by decide
  have kk1 : (1 : Int32).toInt = 1 := by decide
  have lk0 := hts (.fieldLink RX10 25 "AbbeyHours$Tokens" "textLength" "I") (List.mem_cons_of_mem _ (List.mem_append_left _ (List.mem_append_left _ (List.mem_of_getElem? (i := 0) rfl))))
  refine lv_iload_n hx hb dX10_endOfToken_0 rfl (lv_at hl 2 rfl) ?_
  refine lv_iconst (v := 1) hx hb dX10_endOfToken_1 (by decide) ?_
  refine lv_iadd hx hb dX10_endOfToken_2 ?_
  refine lv_topi (fun x_1 ex_1 => ?_)
  first | have tx_1 := t_add ex_1 (by omega) (by omega) | skip
  refine lv_istore_n (lv' := [(3, .int x_1), (0, .ref h), (1, .ref ht), (2, .int a)]) hx hb dX10_endOfToken_3 rfl hl (by decide) rfl (fun ls hl => ?_)
  refine lv_aload_n hx hb dX10_endOfToken_4 rfl (lv_at hl 2 rfl) ?_
  refine lv_iload_n hx hb dX10_endOfToken_5 rfl (lv_at hl 3 rfl) ?_
  have hPc := hP.sub (ws' := [(ht, .inr (8, [.ref ta_bytes, .int tv_length])), (ta_bytes, .inl (cB, 600, .inl tf_bytes))]) [1, 2] rfl
  refine roV (As := [.int a]) (rest := []) S (t_byteAt  (by omega) (by omega)) (cwV 1 hts gX10_endOfToken_X9_byteAt rfl rfl rfl ⟨rfl, hd_X9_byteAt⟩ ⟨Nat.le_of_ble_eq_true rfl, Nat.le_of_ble_eq_true rfl⟩) hK hPc (va_recv hK.1 hPc (ci := 8) (q0 := 0) rfl rfl) rfl hl.1 rfl (Nat.le_of_ble_eq_true rfl) dX10_endOfToken_6 ⟨Nat.le_of_ble_eq_true rfl, Nat.le_of_ble_eq_true rfl⟩ (fun r_2 hw_2 => ?_)
  have hw_2 : True := hw_2
  have hPc := hP.sub (ws' := []) [] rfl
  refine roS (As := [.int r_2]) (rest := []) S (y_isLetter  ) (va_cwS 1 hts gX10_endOfToken_X10_isLetter rfl rfl rfl hd_X10_isLetter ⟨Nat.le_of_ble_eq_true rfl, Nat.le_of_ble_eq_true rfl⟩) hK hPc rfl hl.1 rfl (Nat.le_of_ble_eq_true rfl) dX10_endOfToken_9 ⟨Nat.le_of_ble_eq_true rfl, Nat.le_of_ble_eq_true rfl⟩ (fun r_3 hw_3 => ?_)
  have hw_3 : (r_3.toInt = 0 ∨ r_3.toInt = 1) := hw_3
  refine lv_if_eq (tgt := 40) hx hb dX10_endOfToken_12 (by decide) (fun c_4 => ?_) (fun c_4 => ?_)
  · have tc_4 := t_eq c_4
    refine lv_aload_n hx hb dX10_endOfToken_40 rfl (lv_at hl 2 rfl) ?_
    refine lv_iload_n hx hb dX10_endOfToken_41 rfl (lv_at hl 3 rfl) ?_
    have hPc := hP.sub (ws' := [(ht, .inr (8, [.ref ta_bytes, .int tv_length])), (ta_bytes, .inl (cB, 600, .inl tf_bytes))]) [1, 2] rfl
    refine roV (As := [.int a]) (rest := []) S (t_byteAt  (by omega) (by omega)) (cwV 1 hts gX10_endOfToken_X9_byteAt rfl rfl rfl ⟨rfl, hd_X9_byteAt⟩ ⟨Nat.le_of_ble_eq_true rfl, Nat.le_of_ble_eq_true rfl⟩) hK hPc (va_recv hK.1 hPc (ci := 8) (q0 := 0) rfl rfl) rfl hl.1 rfl (Nat.le_of_ble_eq_true rfl) dX10_endOfToken_42 ⟨Nat.le_of_ble_eq_true rfl, Nat.le_of_ble_eq_true rfl⟩ (fun r_5 hw_5 => ?_)
    have hw_5 : True := hw_5
    have hPc := hP.sub (ws' := []) [] rfl
    refine roS (As := [.int r_5]) (rest := []) S (y_isDigit  ) (va_cwS 1 hts gX10_endOfToken_X10_isDigit rfl rfl rfl hd_X10_isDigit ⟨Nat.le_of_ble_eq_true rfl, Nat.le_of_ble_eq_true rfl⟩) hK hPc rfl hl.1 rfl (Nat.le_of_ble_eq_true rfl) dX10_endOfToken_45 ⟨Nat.le_of_ble_eq_true rfl, Nat.le_of_ble_eq_true rfl⟩ (fun r_6 hw_6 => ?_)
    have hw_6 : (r_6.toInt = 0 ∨ r_6.toInt = 1) := hw_6
    refine lv_if_eq (tgt := 76) hx hb dX10_endOfToken_48 (by decide) (fun c_7 => ?_) (fun c_7 => ?_)
    · have tc_7 := t_eq c_7
      refine lv_iload_n hx hb dX10_endOfToken_76 rfl (lv_at hl 0 rfl) ?_
      exact hret x_1 _ _ (show a.toInt < x_1.toInt ∧ x_1.toInt ≤ v_textLength.toInt from by omega) rfl dX10_endOfToken_77
    · have tc_7 := t_neq c_7
      have loop51 : ∀ (fuel : Nat) (j : Int32), v_textLength.toInt - j.toInt < (fuel : Int) → (a.toInt < j.toInt) → (j.toInt ≤ v_textLength.toInt) → ∀ ls : Array Slot, lv_has ls 4 [(3, .int j), (0, .ref h), (1, .ref ht), (2, .int a)] → W p l e ({ frames := 1, cells := 0, slots := 0, locals := 21 } : Room) s m args below meth c s.heap [] 0 0 Q (F0 m 51 ls []) := by
        intro fuel
        induction fuel with
        | zero =>
          intro j hmu hj0 hj1 ls hl
          exfalso; omega
        | succ fuel ih51 =>
          intro j hmu hj0 hj1 ls hl
          refine lv_iload_n hx hb dX10_endOfToken_51 rfl (lv_at hl 0 rfl) ?_
          refine lv_aload_n hx hb dX10_endOfToken_52 rfl (lv_at hl 1 rfl) ?_
          refine va_get (D := D) (ci := 9) (v := .int v_textLength) (C := RX10) (T := TX10) (N := 5) hx hb hts in_y_endOf_X10 hown hK.1 hP 0 rfl rfl 4 (by decide) lk0 (fun _ h9 => h9) rfl dX10_endOfToken_53 ?_
          refine lv_icmp_ge (tgt := 76) hx hb dX10_endOfToken_56 (by decide) (fun c_8 => ?_) (fun c_8 => ?_)
          · have tc_8 := t_le c_8
            refine lv_iload_n hx hb dX10_endOfToken_76 rfl (lv_at hl 0 rfl) ?_
            exact hret j _ _ (show a.toInt < j.toInt ∧ j.toInt ≤ v_textLength.toInt from by omega) rfl dX10_endOfToken_77
          · have tc_8 := t_nle c_8
            refine lv_aload_n hx hb dX10_endOfToken_59 rfl (lv_at hl 2 rfl) ?_
            refine lv_iload_n hx hb dX10_endOfToken_60 rfl (lv_at hl 0 rfl) ?_
            have hPc := hP.sub (ws' := [(ht, .inr (8, [.ref ta_bytes, .int tv_length])), (ta_bytes, .inl (cB, 600, .inl tf_bytes))]) [1, 2] rfl
            refine roV (As := [.int j]) (rest := []) S (t_byteAt  (by omega) (by omega)) (cwV 1 hts gX10_endOfToken_X9_byteAt rfl rfl rfl ⟨rfl, hd_X9_byteAt⟩ ⟨Nat.le_of_ble_eq_true rfl, Nat.le_of_ble_eq_true rfl⟩) hK hPc (va_recv hK.1 hPc (ci := 8) (q0 := 0) rfl rfl) rfl hl.1 rfl (Nat.le_of_ble_eq_true rfl) dX10_endOfToken_61 ⟨Nat.le_of_ble_eq_true rfl, Nat.le_of_ble_eq_true rfl⟩ (fun r_9 hw_9 => ?_)
            have hw_9 : True := hw_9
            have hPc := hP.sub (ws' := []) [] rfl
            refine roS (As := [.int r_9]) (rest := []) S (y_isDigit  ) (va_cwS 1 hts gX10_endOfToken_X10_isDigit rfl rfl rfl hd_X10_isDigit ⟨Nat.le_of_ble_eq_true rfl, Nat.le_of_ble_eq_true rfl⟩) hK hPc rfl hl.1 rfl (Nat.le_of_ble_eq_true rfl) dX10_endOfToken_64 ⟨Nat.le_of_ble_eq_true rfl, Nat.le_of_ble_eq_true rfl⟩ (fun r_10 hw_10 => ?_)
            have hw_10 : (r_10.toInt = 0 ∨ r_10.toInt = 1) := hw_10
            refine lv_if_eq (tgt := 76) hx hb dX10_endOfToken_67 (by decide) (fun c_11 => ?_) (fun c_11 => ?_)
            · have tc_11 := t_eq c_11
              refine lv_iload_n hx hb dX10_endOfToken_76 rfl (lv_at hl 0 rfl) ?_
              exact hret j _ _ (show a.toInt < j.toInt ∧ j.toInt ≤ v_textLength.toInt from by omega) rfl dX10_endOfToken_77
            · have tc_11 := t_neq c_11
              obtain ⟨x_12, ex_12⟩ : ∃ y : Int32, y = j + 1 := ⟨_, rfl⟩
              refine lv_iinc (v := x_12) (lv' := [(3, .int x_12), (0, .ref h), (1, .ref ht), (2, .int a)]) hx hb dX10_endOfToken_70 hl (k := 0) rfl (by rw [ex_12]; rfl) (by decide) rfl (fun ls hl => ?_)
              first | have tx_12 := t_add ex_12 (by omega) (by omega) | skip
              refine lv_goto (tgt := 51) hx hb dX10_endOfToken_73 (by decide) ?_
              exact ih51 x_12 (by omega) (by omega) (by omega) ls (lv_sub hl [0, 1, 2, 3] rfl)
      exact loop51 ((v_textLength.toInt - x_1.toInt).toNat + 1) x_1 (by omega) (by omega) (by omega) ls (lv_sub hl [0, 1, 2, 3] rfl)
  · have tc_4 := t_neq c_4
    have loop15 : ∀ (fuel : Nat) (j : Int32), v_textLength.toInt - j.toInt < (fuel : Int) → (a.toInt < j.toInt) → (j.toInt ≤ v_textLength.toInt) → ∀ ls : Array Slot, lv_has ls 4 [(3, .int j), (0, .ref h), (1, .ref ht), (2, .int a)] → W p l e ({ frames := 1, cells := 0, slots := 0, locals := 21 } : Room) s m args below meth c s.heap [] 0 0 Q (F0 m 15 ls []) := by
      intro fuel
      induction fuel with
      | zero =>
        intro j hmu hj0 hj1 ls hl
        exfalso; omega
      | succ fuel ih15 =>
        intro j hmu hj0 hj1 ls hl
        refine lv_iload_n hx hb dX10_endOfToken_15 rfl (lv_at hl 0 rfl) ?_
        refine lv_aload_n hx hb dX10_endOfToken_16 rfl (lv_at hl 1 rfl) ?_
        refine va_get (D := D) (ci := 9) (v := .int v_textLength) (C := RX10) (T := TX10) (N := 5) hx hb hts in_y_endOf_X10 hown hK.1 hP 0 rfl rfl 4 (by decide) lk0 (fun _ h9 => h9) rfl dX10_endOfToken_17 ?_
        refine lv_icmp_ge (tgt := 76) hx hb dX10_endOfToken_20 (by decide) (fun c_13 => ?_) (fun c_13 => ?_)
        · have tc_13 := t_le c_13
          refine lv_iload_n hx hb dX10_endOfToken_76 rfl (lv_at hl 0 rfl) ?_
          exact hret j _ _ (show a.toInt < j.toInt ∧ j.toInt ≤ v_textLength.toInt from by omega) rfl dX10_endOfToken_77
        · have tc_13 := t_nle c_13
          refine lv_aload_n hx hb dX10_endOfToken_23 rfl (lv_at hl 2 rfl) ?_
          refine lv_iload_n hx hb dX10_endOfToken_24 rfl (lv_at hl 0 rfl) ?_
          have hPc := hP.sub (ws' := [(ht, .inr (8, [.ref ta_bytes, .int tv_length])), (ta_bytes, .inl (cB, 600, .inl tf_bytes))]) [1, 2] rfl
          refine roV (As := [.int j]) (rest := []) S (t_byteAt  (by omega) (by omega)) (cwV 1 hts gX10_endOfToken_X9_byteAt rfl rfl rfl ⟨rfl, hd_X9_byteAt⟩ ⟨Nat.le_of_ble_eq_true rfl, Nat.le_of_ble_eq_true rfl⟩) hK hPc (va_recv hK.1 hPc (ci := 8) (q0 := 0) rfl rfl) rfl hl.1 rfl (Nat.le_of_ble_eq_true rfl) dX10_endOfToken_25 ⟨Nat.le_of_ble_eq_true rfl, Nat.le_of_ble_eq_true rfl⟩ (fun r_14 hw_14 => ?_)
          have hw_14 : True := hw_14
          have hPc := hP.sub (ws' := []) [] rfl
          refine roS (As := [.int r_14]) (rest := []) S (y_isLetter  ) (va_cwS 1 hts gX10_endOfToken_X10_isLetter rfl rfl rfl hd_X10_isLetter ⟨Nat.le_of_ble_eq_true rfl, Nat.le_of_ble_eq_true rfl⟩) hK hPc rfl hl.1 rfl (Nat.le_of_ble_eq_true rfl) dX10_endOfToken_28 ⟨Nat.le_of_ble_eq_true rfl, Nat.le_of_ble_eq_true rfl⟩ (fun r_15 hw_15 => ?_)
          have hw_15 : (r_15.toInt = 0 ∨ r_15.toInt = 1) := hw_15
          refine lv_if_eq (tgt := 76) hx hb dX10_endOfToken_31 (by decide) (fun c_16 => ?_) (fun c_16 => ?_)
          · have tc_16 := t_eq c_16
            refine lv_iload_n hx hb dX10_endOfToken_76 rfl (lv_at hl 0 rfl) ?_
            exact hret j _ _ (show a.toInt < j.toInt ∧ j.toInt ≤ v_textLength.toInt from by omega) rfl dX10_endOfToken_77
          · have tc_16 := t_neq c_16
            obtain ⟨x_17, ex_17⟩ : ∃ y : Int32, y = j + 1 := ⟨_, rfl⟩
            refine lv_iinc (v := x_17) (lv' := [(3, .int x_17), (0, .ref h), (1, .ref ht), (2, .int a)]) hx hb dX10_endOfToken_34 hl (k := 0) rfl (by rw [ex_17]; rfl) (by decide) rfl (fun ls hl => ?_)
            first | have tx_17 := t_add ex_17 (by omega) (by omega) | skip
            refine lv_goto (tgt := 15) hx hb dX10_endOfToken_37 (by decide) ?_
            exact ih15 x_17 (by omega) (by omega) (by omega) ls (lv_sub hl [0, 1, 2, 3] rfl)
    exact loop15 ((v_textLength.toInt - x_1.toInt).toNat + 1) x_1 (by omega) (by omega) (by omega) ls (lv_sub hl [0, 1, 2, 3] rfl)

