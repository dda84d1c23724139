set_option maxHeartbeats 8000000 in
set_option maxRecDepth 100000 in
theorem j_coder {l : Launch} {D : va_G} {cI cZ cB : ClassId} {adK adV : Nat → Nat} {i : Nat} (hi : i < 7) : Met l yJ0_coder_7d493 wsJ0_coder_7d493 ({ frames := 0, cells := 0, slots := 0, locals := 0 }) (ROs D cI cZ cB adK adV [.ref (adK i)] []) (vp_Si (fun r : Int32 => r = 0)) 0 0 (fun _ => False) := by
  refine ros_ret (cc := cJ0_coder_7d493) (maxL := 1) (ty := .byte) (own := RJ0) (by decide) rfl rfl (Nat.le_of_ble_eq_true rfl) ?_
  intro p e s m args below meth c Q S hret hP hK hZ ls hl
  obtain ⟨hx, hb, hml, hown, hts⟩ := id S
  have hl : lv_has ls 1 [(0, .ref (adK i))] := hl
  have kk0 : (0 : Int32).toInt = 0 := by decide
  have kk1 : (1 : Int32).toInt = 1 := by decide
  have lk0 := hts (.fieldLink RJ0 38 "java/lang/String" "COMPACT_STRINGS" "Z") (List.mem_cons_of_mem _ (List.mem_of_getElem? (i := 0) rfl))
  have lk1 := hts (.fieldLink RJ0 15 "java/lang/String" "coder" "B") (List.mem_cons_of_mem _ (List.mem_of_getElem? (i := 1) rfl))
  refine va_gets hx hb hZ.2.1 va_S.rf hown lk0 (fun _ h => h) dJ0_coder_7d493_0 ?_
  refine lv_if_eq (tgt := 13) hx hb dJ0_coder_7d493_3 (by decide) (fun c_1 => ?_) (fun c_1 => ?_)
  · exact absurd c_1 (by decide)
  · have tc_1 := t_neq c_1
    refine lv_aload_n hx hb dJ0_coder_7d493_6 rfl (lv_at hl 0 rfl) ?_
    refine vk_getf hx hb (hZ.1.1 i (by omega)).2.1 va_S.rf hown lk1 (fun _ h => h) dJ0_coder_7d493_7 ?_
    refine lv_goto (tgt := 14) hx hb dJ0_coder_7d493_10 (by decide) ?_
    exact hret 0 _ _ (show (0 : Int32) = 0 from rfl) rfl dJ0_coder_7d493_14

set_option maxHeartbeats 8000000 in
set_option maxRecDepth 100000 in
theorem j_isLatin1 {l : Launch} {D : va_G} {cI cZ cB : ClassId} {adK adV : Nat → Nat} {i : Nat} (hi : i < 7) : Met l yJ0_isLatin1_aae02 wsJ0_isLatin1_aae02 ({ frames := 0, cells := 0, slots := 0, locals := 0 }) (ROs D cI cZ cB adK adV [.ref (adK i)] []) (vp_Si (fun r : Int32 => r = 1)) 0 0 (fun _ => False) := by
  refine ros_ret (cc := cJ0_isLatin1_aae02) (maxL := 1) (ty := .boolean) (own := RJ0) (by decide) rfl rfl (Nat.le_of_ble_eq_true rfl) ?_
  intro p e s m args below meth c Q S hret hP hK hZ ls hl
  obtain ⟨hx, hb, hml, hown, hts⟩ := id S
  have hl : lv_has ls 1 [(0, .ref (adK i))] := hl
  have kk0 : (0 : Int32).toInt = 0 := by decide
  have kk1 : (1 : Int32).toInt = 1 := by decide
  have lk0 := hts (.fieldLink RJ0 38 "java/lang/String" "COMPACT_STRINGS" "Z") (List.mem_cons_of_mem _ (List.mem_of_getElem? (i := 0) rfl))
  have lk1 := hts (.fieldLink RJ0 15 "java/lang/String" "coder" "B") (List.mem_cons_of_mem _ (List.mem_of_getElem? (i := 1) rfl))
  refine va_gets hx hb hZ.2.1 va_S.rf hown lk0 (fun _ h => h) dJ0_isLatin1_aae02_0 ?_
  refine lv_if_eq (tgt := 17) hx hb dJ0_isLatin1_aae02_3 (by decide) (fun c_1 => ?_) (fun c_1 => ?_)
  · exact absurd c_1 (by decide)
  · have tc_1 := t_neq c_1
    refine lv_aload_n hx hb dJ0_isLatin1_aae02_6 rfl (lv_at hl 0 rfl) ?_
    refine vk_getf hx hb (hZ.1.1 i (by omega)).2.1 va_S.rf hown lk1 (fun _ h => h) dJ0_isLatin1_aae02_7 ?_
    refine lv_if_ne (tgt := 17) hx hb dJ0_isLatin1_aae02_10 (by decide) (fun c_2 => ?_) (fun c_2 => ?_)
    · exact absurd c_2 (by decide)
    · have tc_2 := t_eq c_2
      refine lv_iconst (v := 1) hx hb dJ0_isLatin1_aae02_13 (by decide) ?_
      refine lv_goto (tgt := 18) hx hb dJ0_isLatin1_aae02_14 (by decide) ?_
      exact hret 1 _ _ (show (1 : Int32) = 1 from rfl) rfl dJ0_isLatin1_aae02_18

set_option maxHeartbeats 8000000 in
set_option maxRecDepth 100000 in
theorem j_length {l : Launch} {D : va_G} {cI cZ cB : ClassId} {adK adV : Nat → Nat} {i : Nat} (hi : i < 7) : Met l yJ0_length_8abf5 wsJ0_length_8abf5 ({ frames := 1, cells := 0, slots := 0, locals := 20 }) (ROs D cI cZ cB adK adV [.ref (adK i)] []) (vp_Si (fun r : Int32 => r.toInt = (stLen.getD i 0 : Nat))) 0 0 (fun _ => False) := by
  refine ros_ret (cc := cJ0_length_8abf5) (maxL := 1) (ty := .int) (own := RJ0) (by decide) rfl rfl (Nat.le_of_ble_eq_true rfl) ?_
  intro p e s m args below meth c Q S hret hP hK hZ ls hl
  obtain ⟨hx, hb, hml, hown, hts⟩ := id S
  have hl : lv_has ls 1 [(0, .ref (adK i))] := hl
  have kk0 : (0 : Int32).toInt = 0 := by decide
  have lk0 := hts (.fieldLink RJ0 9 "java/lang/String" "value" "[B") (List.mem_cons_of_mem _ (List.mem_of_getElem? (i := 0) rfl))
  refine lv_aload_n hx hb dJ0_length_8abf5_0 rfl (lv_at hl 0 rfl) ?_
  refine vk_getf hx hb (hZ.1.1 i (by omega)).2.2.1 va_S.rf hown lk0 (fun _ h => h) dJ0_length_8abf5_1 ?_
  refine va_tlen hx hb (hZ.1.1 i (by omega)).2.2.2 va_S.rf rfl dJ0_length_8abf5_4 ?_
  refine lv_topi (fun ln eln => ?_)
  have tln : ln.toInt = (stLen.getD i 0 : Nat) := by rw [eln]; exact nI_toInt (by have := stLen_rg i (by omega); omega)
  refine lv_aload_n hx hb dJ0_length_8abf5_5 rfl (lv_at hl 0 rfl) ?_
  have hPc := hP.sub (ws' := []) [] rfl
  refine rosV (As := []) (rest := [.int ln]) S (j_coder  (by omega)) (cwV 0 hts gJ0_length_8abf5_J0_coder_7d493 rfl rfl rfl (by decide +kernel) ⟨Nat.le_of_ble_eq_true rfl, Nat.le_of_ble_eq_true rfl⟩) hK hZ hPc (vk_recv hZ.1 (by omega) va_S.rf) rfl hl.1 rfl (Nat.le_of_ble_eq_true rfl) dJ0_length_8abf5_6 ⟨Nat.le_of_ble_eq_true rfl, Nat.le_of_ble_eq_true rfl⟩ (fun r_co hw_co => ?_)
  have hw_co : r_co = 0 := hw_co
  refine lv_ishr hx hb dJ0_length_8abf5_9 ?_
  refine lv_topi (fun z ez => ?_)
  exact hret z _ _ (show z.toInt = (stLen.getD i 0 : Nat) from by rw [ez, hw_co, shr0]; exact tln) rfl dJ0_length_8abf5_10

set_option maxHeartbeats 8000000 in
set_option maxRecDepth 100000 in
theorem j_pre {l : Launch} {D : va_G} {cI cZ cB : ClassId} {adK adV : Nat → Nat} {x n : Int32} {t : Nat} (h0 : 0 ≤ x.toInt) (h1 : x.toInt < n.toInt) : Met l yJ3_checkIndex_8e157 wsJ3_checkIndex_8e157 ({ frames := 0, cells := 0, slots := 0, locals := 0 }) (ROs D cI cZ cB adK adV [.int x, .int n, .ref t] []) (vp_Si (fun r : Int32 => True)) 0 0 (fun _ => False) := by
  refine ros_ret (cc := cJ3_checkIndex_8e157) (maxL := 3) (ty := .int) (own := RJ3) (by decide) rfl rfl (Nat.le_of_ble_eq_true rfl) ?_
  intro p e s m args below meth c Q S hret hP hK hZ ls hl
  obtain ⟨hx, hb, hml, hown, hts⟩ := id S
  have hl : lv_has ls 3 [(0, .int x), (1, .int n), (2, .ref t)] := hl
  have kk0 : (0 : Int32).toInt = 0 := by decide
  refine lv_iload_n hx hb dJ3_checkIndex_8e157_0 rfl (lv_at hl 0 rfl) ?_
  refine lv_if_lt (tgt := 9) hx hb dJ3_checkIndex_8e157_1 (by decide) (fun c_1 => ?_) (fun c_1 => ?_)
  · have tc_1 := t_lt c_1
    exfalso; omega
  · have tc_1 := t_nlt c_1
    refine lv_iload_n hx hb dJ3_checkIndex_8e157_4 rfl (lv_at hl 0 rfl) ?_
    refine lv_iload_n hx hb dJ3_checkIndex_8e157_5 rfl (lv_at hl 1 rfl) ?_
    refine lv_icmp_lt (tgt := 16) hx hb dJ3_checkIndex_8e157_6 (by decide) (fun c_2 => ?_) (fun c_2 => ?_)
    · have tc_2 := t_lt c_2
      refine lv_iload_n hx hb dJ3_checkIndex_8e157_16 rfl (lv_at hl 0 rfl) ?_
      exact hret x _ _ (show True from trivial) rfl dJ3_checkIndex_8e157_17
    · have tc_2 := t_nlt c_2
      exfalso; omega

set_option maxHeartbeats 8000000 in
set_option maxRecDepth 100000 in
theorem j_preN {l : Launch} {D : va_G} {cI cZ cB : ClassId} {adK adV : Nat → Nat} {x n : Int32} (h0 : 0 ≤ x.toInt) (h1 : x.toInt < n.toInt) : Met l yJ3_checkIndex_8e157 wsJ3_checkIndex_8e157 ({ frames := 0, cells := 0, slots := 0, locals := 0 }) (ROs D cI cZ cB adK adV [.int x, .int n, .null] []) (vp_Si (fun r : Int32 => True)) 0 0 (fun _ => False) := by
  refine ros_ret (cc := cJ3_checkIndex_8e157) (maxL := 3) (ty := .int) (own := RJ3) (by decide) rfl rfl (Nat.le_of_ble_eq_true rfl) ?_
  intro p e s m args below meth c Q S hret hP hK hZ ls hl
  obtain ⟨hx, hb, hml, hown, hts⟩ := id S
  have hl : lv_has ls 3 [(0, .int x), (1, .int n), (2, .null)] := hl
  have kk0 : (0 : Int32).toInt = 0 := by decide
  refine lv_iload_n hx hb dJ3_checkIndex_8e157_0 rfl (lv_at hl 0 rfl) ?_
  refine lv_if_lt (tgt := 9) hx hb dJ3_checkIndex_8e157_1 (by decide) (fun c_1 => ?_) (fun c_1 => ?_)
  · have tc_1 := t_lt c_1
    exfalso; omega
  · have tc_1 := t_nlt c_1
    refine lv_iload_n hx hb dJ3_checkIndex_8e157_4 rfl (lv_at hl 0 rfl) ?_
    refine lv_iload_n hx hb dJ3_checkIndex_8e157_5 rfl (lv_at hl 1 rfl) ?_
    refine lv_icmp_lt (tgt := 16) hx hb dJ3_checkIndex_8e157_6 (by decide) (fun c_2 => ?_) (fun c_2 => ?_)
    · have tc_2 := t_lt c_2
      refine lv_iload_n hx hb dJ3_checkIndex_8e157_16 rfl (lv_at hl 0 rfl) ?_
      exact hret x _ _ (show True from trivial) rfl dJ3_checkIndex_8e157_17
    · have tc_2 := t_nlt c_2
      exfalso; omega

set_option maxHeartbeats 8000000 in
set_option maxRecDepth 100000 in
theorem j_check {l : Launch} {D : va_G} {cI cZ cB : ClassId} {adK adV : Nat → Nat} {x n : Int32} (h0 : 0 ≤ x.toInt) (h1 : x.toInt < n.toInt) : Met l yJ0_checkIndex_df160 wsJ0_checkIndex_df160 ({ frames := 1, cells := 0, slots := 0, locals := 22 }) (ROs D cI cZ cB adK adV [.int x, .int n] []) (va_Sv (fun _ => True)) 0 0 (fun _ => False) := by
  refine ros_retv (cc := cJ0_checkIndex_df160) (maxL := 2)  (own := RJ0) (by decide) rfl rfl (Nat.le_of_ble_eq_true rfl) ?_
  intro p e s m args below meth c Q S hret hP hK hZ ls hl
  obtain ⟨hx, hb, hml, hown, hts⟩ := id S
  have hl : lv_has ls 2 [(0, .int x), (1, .int n)] := hl
  have kk0 : (0 : Int32).toInt = 0 := by decide
  have lk0 := hts (.fieldLink RJ0 1053 "jdk/internal/util/Preconditions" "SIOOBE_FORMATTER" "Ljava/util/function/BiFunction;") (List.mem_cons_of_mem _ (List.mem_of_getElem? (i := 0) rfl))
  refine lv_iload_n hx hb dJ0_checkIndex_df160_0 rfl (lv_at hl 0 rfl) ?_
  refine lv_iload_n hx hb dJ0_checkIndex_df160_1 rfl (lv_at hl 1 rfl) ?_
  rcases hZ.2.2.1 with hq_1 | ⟨t_1, hq_1⟩
  · refine va_gets hx hb hq_1 va_S.rf hown lk0 (fun _ h => h) dJ0_checkIndex_df160_2 ?_
    have hPc := hP.sub (ws' := []) [] rfl
    refine rosS (As := [.int x, .int n, .null]) (rest := []) S (j_preN  (by omega) (by omega)) (va_cwS 3 hts gJ0_checkIndex_df160_J3_checkIndex_8e157 rfl rfl rfl (by decide +kernel) ⟨Nat.le_of_ble_eq_true rfl, Nat.le_of_ble_eq_true rfl⟩) hK hZ hPc rfl hl.1 rfl (Nat.le_of_ble_eq_true rfl) dJ0_checkIndex_df160_5 ⟨Nat.le_of_ble_eq_true rfl, Nat.le_of_ble_eq_true rfl⟩ (fun r_2 hw_2 => ?_)
    have hw_2 : True := hw_2
    refine lv_pop hx hb dJ0_checkIndex_df160_8 rfl ?_
    exact hret _ _ dJ0_checkIndex_df160_9
  · refine va_gets hx hb hq_1 va_S.rf hown lk0 (fun _ h => h) dJ0_checkIndex_df160_2 ?_
    have hPc := hP.sub (ws' := []) [] rfl
    refine rosS (As := [.int x, .int n, .ref t_1]) (rest := []) S (j_pre  (by omega) (by omega)) (va_cwS 3 hts gJ0_checkIndex_df160_J3_checkIndex_8e157 rfl rfl rfl (by decide +kernel) ⟨Nat.le_of_ble_eq_true rfl, Nat.le_of_ble_eq_true rfl⟩) hK hZ hPc rfl hl.1 rfl (Nat.le_of_ble_eq_true rfl) dJ0_checkIndex_df160_5 ⟨Nat.le_of_ble_eq_true rfl, Nat.le_of_ble_eq_true rfl⟩ (fun r_3 hw_3 => ?_)
    have hw_3 : True := hw_3
    refine lv_pop hx hb dJ0_checkIndex_df160_8 rfl ?_
    exact hret _ _ dJ0_checkIndex_df160_9

set_option maxHeartbeats 8000000 in
set_option maxRecDepth 100000 in
theorem j_latin {l : Launch} {D : va_G} {cI cZ cB : ClassId} {adK adV : Nat → Nat} {i : Nat} {x : Int32} (hi : i < 7) (h0 : 0 ≤ x.toInt) (h1 : x.toInt < (stLen.getD i 0 : Nat)) : Met l yJ1_charAt_3b067 wsJ1_charAt_3b067 ({ frames := 2, cells := 0, slots := 0, locals := 43 }) (ROs D cI cZ cB adK adV [.ref (adV i), .int x] []) (vp_Si (fun r : Int32 => narrow .char (.int r) = .int r)) 0 0 (fun _ => False) := by
  refine ros_ret (cc := cJ1_charAt_3b067) (maxL := 2) (ty := .char) (own := RJ1) (by decide) rfl rfl (Nat.le_of_ble_eq_true rfl) ?_
  intro p e s m args below meth c Q S hret hP hK hZ ls hl
  obtain ⟨hx, hb, hml, hown, hts⟩ := id S
  have hl : lv_has ls 2 [(0, .ref (adV i)), (1, .int x)] := hl
  have kk0 : (0 : Int32).toInt = 0 := by decide
  have kk255 : (255 : Int32).toInt = 255 := by decide
  refine lv_iload_n hx hb dJ1_charAt_3b067_0 rfl (lv_at hl 1 rfl) ?_
  refine lv_aload_n hx hb dJ1_charAt_3b067_1 rfl (lv_at hl 0 rfl) ?_
  refine va_tlen hx hb (hZ.1.1 i (by omega)).2.2.2 va_S.rf rfl dJ1_charAt_3b067_2 ?_
  refine lv_topi (fun x_1 ex_1 => ?_)
  have tx_1 : x_1.toInt = (stLen.getD i 0 : Nat) := by rw [ex_1]; exact nI_toInt (by have := stLen_rg i (by omega); omega)
  have hPc := hP.sub (ws' := []) [] rfl
  refine rosSv (As := [.int x, .int x_1]) (rest := []) S (j_check  (by omega) (by omega)) (va_cwS 2 hts gJ1_charAt_3b067_J0_checkIndex_df160 rfl rfl rfl (by decide +kernel) ⟨Nat.le_of_ble_eq_true rfl, Nat.le_of_ble_eq_true rfl⟩) hK hZ hPc rfl hl.1 rfl (Nat.le_of_ble_eq_true rfl) dJ1_charAt_3b067_3 ⟨Nat.le_of_ble_eq_true rfl, Nat.le_of_ble_eq_true rfl⟩ ?_
  refine lv_aload_n hx hb dJ1_charAt_3b067_6 rfl (lv_at hl 0 rfl) ?_
  refine lv_iload_n hx hb dJ1_charAt_3b067_7 rfl (lv_at hl 1 rfl) ?_
  refine va_tb hx hb (hZ.1.1 i (by omega)).2.2.2 va_S.rf (t_in (by omega) (by omega)) rfl dJ1_charAt_3b067_8 ?_
  refine lv_topi (fun x_3 ex_3 => ?_)
  refine lv_sipush (v := 255) hx hb dJ1_charAt_3b067_9 (by decide) ?_
  refine lv_iand hx hb dJ1_charAt_3b067_12 ?_
  refine lv_topi (fun x_4 ex_4 => ?_)
  refine lv_i2c hx hb dJ1_charAt_3b067_13 rfl ?_
  refine lv_topi (fun cc_ ecc_ => ?_)
  exact hret cc_ _ _ (show narrow .char (.int cc_) = .int cc_ from by rw [ecc_]; exact pk_nc _) (by rw [ecc_]; exact pk_nc _) dJ1_charAt_3b067_14

set_option maxHeartbeats 8000000 in
set_option maxRecDepth 100000 in
theorem j_charAt {l : Launch} {D : va_G} {cI cZ cB : ClassId} {adK adV : Nat → Nat} {i : Nat} {x : Int32} (hi : i < 7) (h0 : 0 ≤ x.toInt) (h1 : x.toInt < (stLen.getD i 0 : Nat)) : Met l yJ0_charAt_5068e wsJ0_charAt_5068e ({ frames := 3, cells := 0, slots := 0, locals := 64 }) (ROs D cI cZ cB adK adV [.ref (adK i), .int x] []) (vp_Si (fun r : Int32 => True)) 0 0 (fun _ => False) := by
  refine ros_ret (cc := cJ0_charAt_5068e) (maxL := 2) (ty := .char) (own := RJ0) (by decide) rfl rfl (Nat.le_of_ble_eq_true rfl) ?_
  intro p e s m args below meth c Q S hret hP hK hZ ls hl
  obtain ⟨hx, hb, hml, hown, hts⟩ := id S
  have hl : lv_has ls 2 [(0, .ref (adK i)), (1, .int x)] := hl
  have kk0 : (0 : Int32).toInt = 0 := by decide
  have kk1 : (1 : Int32).toInt = 1 := by decide
  have lk0 := hts (.fieldLink RJ0 9 "java/lang/String" "value" "[B") (mc_J0_charAt_5068e_r1 _ (List.mem_of_getElem? (i := 0) rfl))
  refine lv_aload_n hx hb dJ0_charAt_5068e_0 rfl (lv_at hl 0 rfl) ?_
  have hPc := hP.sub (ws' := []) [] rfl
  refine rosV (As := []) (rest := []) S (j_isLatin1  (by omega)) (cwV 0 hts gJ0_charAt_5068e_J0_isLatin1_aae02 rfl rfl rfl (by decide +kernel) ⟨Nat.le_of_ble_eq_true rfl, Nat.le_of_ble_eq_true rfl⟩) hK hZ hPc (vk_recv hZ.1 (by omega) va_S.rf) rfl hl.1 rfl (Nat.le_of_ble_eq_true rfl) dJ0_charAt_5068e_1 ⟨Nat.le_of_ble_eq_true rfl, Nat.le_of_ble_eq_true rfl⟩ (fun r_la hw_la => ?_)
  have hw_la : r_la = 1 := hw_la
  have hw_la := t_eq hw_la
  refine lv_if_eq (tgt := 16) hx hb dJ0_charAt_5068e_4 (by decide) (fun c_1 => ?_) (fun c_1 => ?_)
  · have tc_1 := t_eq c_1
    exfalso; omega
  · have tc_1 := t_neq c_1
    refine lv_aload_n hx hb dJ0_charAt_5068e_7 rfl (lv_at hl 0 rfl) ?_
    refine vk_getf hx hb (hZ.1.1 i (by omega)).2.2.1 va_S.rf hown lk0 (fun _ h => h) dJ0_charAt_5068e_8 ?_
    refine lv_iload_n hx hb dJ0_charAt_5068e_11 rfl (lv_at hl 1 rfl) ?_
    have hPc := hP.sub (ws' := []) [] rfl
    refine rosS (As := [.ref (adV i), .int x]) (rest := []) S (j_latin  (by omega) (by omega) (by omega)) (va_cwS 2 hts gJ0_charAt_5068e_J1_charAt_3b067 rfl rfl rfl (by decide +kernel) ⟨Nat.le_of_ble_eq_true rfl, Nat.le_of_ble_eq_true rfl⟩) hK hZ hPc rfl hl.1 rfl (Nat.le_of_ble_eq_true rfl) dJ0_charAt_5068e_12 ⟨Nat.le_of_ble_eq_true rfl, Nat.le_of_ble_eq_true rfl⟩ (fun r_lt hw_lt => ?_)
    have hw_lt : narrow .char (.int r_lt) = .int r_lt := hw_lt
    exact hret r_lt _ _ (show True from trivial) hw_lt dJ0_charAt_5068e_15

