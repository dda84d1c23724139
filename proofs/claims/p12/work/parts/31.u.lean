set_option maxHeartbeats 8000000 in
set_option maxRecDepth 100000 in
theorem p_fastSt {l : Launch} {D : va_G} {cI cZ cB : ClassId} {sz : Nat} {h a_tokens a_kinds a_firsts a_seconds ta_kinds ta_places ta_values : Nat} {v_size v_next v_first v_second tv_size tv_textLength : Int32} {tf_kinds tf_values : Nat → Int32}  (htv_size0 : 0 ≤ tv_size.toInt) (htv_size1 : tv_size.toInt ≤ 97) (hn0 : 0 ≤ v_next.toInt) (hn1 : v_next.toInt ≤ 500) : Met l yX6_fastStatement wsX6_fastStatement ({ frames := 3, cells := 0, slots := 0, locals := 62 }) (RW D cI cZ cB [.ref h] sz [(h, .inr (6, [.ref a_tokens, .ref a_kinds, .ref a_firsts, .ref a_seconds, .int v_size, .int v_next, .int v_first, .int v_second])), (a_tokens, .inr (9, [.ref ta_kinds, .ref ta_places, .ref ta_values, .int tv_size, .int tv_textLength])), (ta_kinds, .inl (cI, 97, .inl tf_kinds)), (ta_values, .inl (cI, 97, .inl tf_values))]) (va_Qi (fun (r : Int32) (u : Int32 × Int32 × Int32) => r = (fastG (kC tv_size tf_kinds) (kC tv_size tf_values) v_next.toNatClampNeg v_first v_second).1 ∧ u.1.toNatClampNeg = (fastG (kC tv_size tf_kinds) (kC tv_size tf_values) v_next.toNatClampNeg v_first v_second).2.1 ∧ v_next.toInt ≤ u.1.toInt ∧ u.1.toInt ≤ v_next.toInt + 4 ∧ (r.toInt ≠ -1 → u.2.1 = (fastG (kC tv_size tf_kinds) (kC tv_size tf_values) v_next.toNatClampNeg v_first v_second).2.2.1 ∧ u.2.2 = (fastG (kC tv_size tf_kinds) (kC tv_size tf_values) v_next.toNatClampNeg v_first v_second).2.2.2)) (BW D [(h, .inr (6, [.ref a_tokens, .ref a_kinds, .ref a_firsts, .ref a_seconds, .int v_size, .int v_next, .int v_first, .int v_second])), (a_tokens, .inr (9, [.ref ta_kinds, .ref ta_places, .ref ta_values, .int tv_size, .int tv_textLength])), (ta_kinds, .inl (cI, 97, .inl tf_kinds)), (ta_values, .inl (cI, 97, .inl tf_values))] sz (fun u : Int32 × Int32 × Int32 => [(h, .inr (6, [.ref a_tokens, .ref a_kinds, .ref a_firsts, .ref a_seconds, .int v_size, .int u.1, .int u.2.1, .int u.2.2])), (a_tokens, .inr (9, [.ref ta_kinds, .ref ta_places, .ref ta_values, .int tv_size, .int tv_textLength])), (ta_kinds, .inl (cI, 97, .inl tf_kinds)), (ta_values, .inl (cI, 97, .inl tf_values))])) (va_A [(h, .inr (6, [.ref a_tokens, .ref a_kinds, .ref a_firsts, .ref a_seconds, .int v_size, .int v_next, .int v_first, .int v_second])), (a_tokens, .inr (9, [.ref ta_kinds, .ref ta_places, .ref ta_values, .int tv_size, .int tv_textLength])), (ta_kinds, .inl (cI, 97, .inl tf_kinds)), (ta_values, .inl (cI, 97, .inl tf_values))] sz)) 0 (0) (va_A [(h, .inr (6, [.ref a_tokens, .ref a_kinds, .ref a_firsts, .ref a_seconds, .int v_size, .int v_next, .int v_first, .int v_second])), (a_tokens, .inr (9, [.ref ta_kinds, .ref ta_places, .ref ta_values, .int tv_size, .int tv_textLength])), (ta_kinds, .inl (cI, 97, .inl tf_kinds)), (ta_values, .inl (cI, 97, .inl tf_values))] sz) := by
  refine rw_ret (cc := cX6_fastStatement) (maxL := 2) (ty := .int) (own := RX6) (by decide) rfl rfl (Nat.le_of_ble_eq_true rfl) ?_
  intro p e s m args below meth c Q A S hin hret hP hK hD hA hS ls hl
  obtain ⟨hx, hb, hml, hown, hts⟩ := id S
  have hl : lv_has ls 2 [(0, .ref h)] := hl
  have kkm1 : (-1 : Int32).toInt = -1 := by decide
  have kk0 : (0 : Int32).toInt = 0 := by decide
  have kk1 : (1 : Int32).toInt = 1 := by decide
  have kk2 : (2 : Int32).toInt = 2 := by decide
  have kk5 : (5 : Int32).toInt = 5 := by decide
  have kk6 : (6 : Int32).toInt = 6 := by decide
  have kk7 : (7 : Int32).toInt = 7 := by decide
  refine lv_aload_n hx hb dX6_fastStatement_0 rfl (lv_at hl 0 rfl) ?_
  refine lv_iconst (v := 5) hx hb dX6_fastStatement_1 (by decide) ?_
  have hPc := hP.sub (ws' := [(h, .inr (6, [.ref a_tokens, .ref a_kinds, .ref a_firsts, .ref a_seconds, .int v_size, .int v_next, .int v_first, .int v_second])), (a_tokens, .inr (9, [.ref ta_kinds, .ref ta_places, .ref ta_values, .int tv_size, .int tv_textLength])), (ta_kinds, .inl (cI, 97, .inl tf_kinds))]) [0, 1, 2] rfl
  refine rwV (As := [.int 5]) (rest := []) (wc := [(h, .inr (6, [.ref a_tokens, .ref a_kinds, .ref a_firsts, .ref a_seconds, .int v_size, .int v_next, .int v_first, .int v_second])), (a_tokens, .inr (9, [.ref ta_kinds, .ref ta_places, .ref ta_values, .int tv_size, .int tv_textLength])), (ta_kinds, .inl (cI, 97, .inl tf_kinds))]) (wr := [(ta_values, .inl (cI, 97, .inl tf_values))]) S (p_accept  (by omega) (by omega) (by omega) (by omega)) (cwV 1 hts gX6_fastStatement_X6_accept rfl rfl rfl ⟨rfl, hd_X6_accept⟩ ⟨Nat.le_of_ble_eq_true rfl, Nat.le_of_ble_eq_true rfl⟩) hK hP hD hS hA [0, 1, 2] [3] rfl rfl (by decide +kernel) (by decide +kernel) (by decide +kernel) (va_recv hK.1 hPc (ci := 6) (q0 := 0) rfl rfl) rfl hl.1 rfl (Nat.le_of_ble_eq_true rfl) dX6_fastStatement_2 ⟨Nat.le_of_ble_eq_true rfl, Nat.le_of_ble_eq_true rfl⟩ (fun r_a1 u_a1 H locs hw_a1 hP hD hS => ?_)
  obtain ⟨n1_a1, rfl⟩ : ∃ z, z = u_a1 := ⟨_, rfl⟩
  have hw_a1 : ((r_a1.toInt = 1 ∧ kC tv_size tf_kinds v_next.toNatClampNeg = (5 : Int32) ∧ n1_a1.toInt = v_next.toInt + 1) ∨ (r_a1.toInt = 0 ∧ ¬ kC tv_size tf_kinds v_next.toNatClampNeg = (5 : Int32) ∧ n1_a1 = v_next)) := hw_a1
  have hP : va_P D vwCl [(ta_values, .inl (cI, 97, .inl tf_values)), (h, .inr (6, [.ref a_tokens, .ref a_kinds, .ref a_firsts, .ref a_seconds, .int v_size, .int n1_a1, .int v_first, .int v_second])), (a_tokens, .inr (9, [.ref ta_kinds, .ref ta_places, .ref ta_values, .int tv_size, .int tv_textLength])), (ta_kinds, .inl (cI, 97, .inl tf_kinds))] H := hP
  have hD := asD hP hD
  have z_a1 := acc01 hw_a1
  refine lv_if_eq (tgt := 21) hx hb dX6_fastStatement_5 (by decide) (fun c_1 => ?_) (fun c_1 => ?_)
  · have tc_1 := t_eq c_1
    have k_a1 := acc0 hw_a1 (by omega)
    have x_a1 : n1_a1.toNatClampNeg = v_next.toNatClampNeg := by have z := ixs k_a1.2; omega
    have kn_a1 := k_a1.1
    have kt_a1 := k_a1.2
    refine lv_aload_n hx hb dX6_fastStatement_21 rfl (lv_at hl 0 rfl) ?_
    refine lv_bipush (v := 6) hx hb dX6_fastStatement_22 (by decide) ?_
    have hPc := hP.sub (ws' := [(h, .inr (6, [.ref a_tokens, .ref a_kinds, .ref a_firsts, .ref a_seconds, .int v_size, .int n1_a1, .int v_first, .int v_second])), (a_tokens, .inr (9, [.ref ta_kinds, .ref ta_places, .ref ta_values, .int tv_size, .int tv_textLength])), (ta_kinds, .inl (cI, 97, .inl tf_kinds))]) [1, 2, 3] rfl
    refine rwV (As := [.int 6]) (rest := []) (wc := [(h, .inr (6, [.ref a_tokens, .ref a_kinds, .ref a_firsts, .ref a_seconds, .int v_size, .int n1_a1, .int v_first, .int v_second])), (a_tokens, .inr (9, [.ref ta_kinds, .ref ta_places, .ref ta_values, .int tv_size, .int tv_textLength])), (ta_kinds, .inl (cI, 97, .inl tf_kinds))]) (wr := [(ta_values, .inl (cI, 97, .inl tf_values))]) S (p_accept  (by omega) (by omega) (by omega) (by omega)) (cwV 1 hts gX6_fastStatement_X6_accept rfl rfl rfl ⟨rfl, hd_X6_accept⟩ ⟨Nat.le_of_ble_eq_true rfl, Nat.le_of_ble_eq_true rfl⟩) hK hP hD hS hA [1, 2, 3] [0] rfl rfl (by decide +kernel) (by decide +kernel) (by decide +kernel) (va_recv hK.1 hPc (ci := 6) (q0 := 0) rfl rfl) rfl hl.1 rfl (Nat.le_of_ble_eq_true rfl) dX6_fastStatement_24 ⟨Nat.le_of_ble_eq_true rfl, Nat.le_of_ble_eq_true rfl⟩ (fun r_b1 u_b1 H locs hw_b1 hP hD hS => ?_)
    obtain ⟨n1_b1, rfl⟩ : ∃ z, z = u_b1 := ⟨_, rfl⟩
    have hw_b1 : ((r_b1.toInt = 1 ∧ kC tv_size tf_kinds n1_a1.toNatClampNeg = (6 : Int32) ∧ n1_b1.toInt = n1_a1.toInt + 1) ∨ (r_b1.toInt = 0 ∧ ¬ kC tv_size tf_kinds n1_a1.toNatClampNeg = (6 : Int32) ∧ n1_b1 = n1_a1)) := hw_b1
    have hP : va_P D vwCl [(ta_values, .inl (cI, 97, .inl tf_values)), (h, .inr (6, [.ref a_tokens, .ref a_kinds, .ref a_firsts, .ref a_seconds, .int v_size, .int n1_b1, .int v_first, .int v_second])), (a_tokens, .inr (9, [.ref ta_kinds, .ref ta_places, .ref ta_values, .int tv_size, .int tv_textLength])), (ta_kinds, .inl (cI, 97, .inl tf_kinds))] H := hP
    have hD := asD hP hD
    have z_b1 := acc01 hw_b1
    refine lv_if_eq (tgt := 57) hx hb dX6_fastStatement_27 (by decide) (fun c_2 => ?_) (fun c_2 => ?_)
    · have tc_2 := t_eq c_2
      have k_b1 := acc0 hw_b1 (by omega)
      rw [x_a1] at k_b1
      have x_b1 : n1_b1.toNatClampNeg = v_next.toNatClampNeg := by have z := ixs k_b1.2; omega
      have kn_b1 := k_b1.1
      have kt_b1 := k_b1.2
      refine lv_iconst (v := 0) hx hb dX6_fastStatement_57 (by decide) ?_
      refine lv_istore_n (lv' := [(1, .int 0), (0, .ref h)]) hx hb dX6_fastStatement_58 rfl hl (by decide) rfl (fun ls hl => ?_)
      refine lv_iload_n hx hb dX6_fastStatement_59 rfl (lv_at hl 0 rfl) ?_
      refine lv_if_eq (tgt := 67) hx hb dX6_fastStatement_60 (by decide) (fun c_3 => ?_) (fun c_3 => ?_)
      · have tc_3 := t_eq c_3
        refine lv_iconst (v := (-1)) hx hb dX6_fastStatement_67 (by decide) ?_
        exact hret (-1) (n1_b1, v_first, v_second) _ _ _ _ (show (-1 : Int32) = (fastG (kC tv_size tf_kinds) (kC tv_size tf_values) v_next.toNatClampNeg v_first v_second).1 ∧ n1_b1.toNatClampNeg = (fastG (kC tv_size tf_kinds) (kC tv_size tf_values) v_next.toNatClampNeg v_first v_second).2.1 ∧ v_next.toInt ≤ n1_b1.toInt ∧ n1_b1.toInt ≤ v_next.toInt + 4 ∧ ((-1 : Int32).toInt ≠ -1 → v_first = (fastG (kC tv_size tf_kinds) (kC tv_size tf_values) v_next.toNatClampNeg v_first v_second).2.2.1 ∧ v_second = (fastG (kC tv_size tf_kinds) (kC tv_size tf_values) v_next.toNatClampNeg v_first v_second).2.2.2) from by unfold fastG; (repeat' split) <;> (try dsimp only) <;> first | contradiction | exact ⟨rfl, by omega, by omega, by omega, fun h => absurd kkm1 h⟩ | exact ⟨rfl, by omega, by omega, by omega, fun _ => ⟨by first | rfl | exact vv_a2 | exact vv_b2 | exact vv_b4, by first | rfl | exact vv_a2 | exact vv_b2 | exact vv_b4⟩⟩) rfl (hP.sub [1, 2, 3, 0] rfl) (hD.sub [1, 2, 3, 0] (by decide +kernel) rfl) hS dX6_fastStatement_68
      · exact absurd c_3 (by decide)
    · have tc_2 := t_neq c_2
      have k_b1 := acc1 hw_b1 (by omega)
      rw [x_a1] at k_b1
      have x_b1 : n1_b1.toNatClampNeg = v_next.toNatClampNeg + 1 := by have z := ix1 k_b1.2 (by omega); omega
      have kn_b1 := k_b1.1
      have kt_b1 := k_b1.2
      refine lv_aload_n hx hb dX6_fastStatement_30 rfl (lv_at hl 0 rfl) ?_
      have hPc := hP.sub (ws' := [(h, .inr (6, [.ref a_tokens, .ref a_kinds, .ref a_firsts, .ref a_seconds, .int v_size, .int n1_b1, .int v_first, .int v_second])), (a_tokens, .inr (9, [.ref ta_kinds, .ref ta_places, .ref ta_values, .int tv_size, .int tv_textLength])), (ta_kinds, .inl (cI, 97, .inl tf_kinds)), (ta_values, .inl (cI, 97, .inl tf_values))]) [1, 2, 3, 0] rfl
      refine rwV (As := []) (rest := []) (wc := [(h, .inr (6, [.ref a_tokens, .ref a_kinds, .ref a_firsts, .ref a_seconds, .int v_size, .int n1_b1, .int v_first, .int v_second])), (a_tokens, .inr (9, [.ref ta_kinds, .ref ta_places, .ref ta_values, .int tv_size, .int tv_textLength])), (ta_kinds, .inl (cI, 97, .inl tf_kinds)), (ta_values, .inl (cI, 97, .inl tf_values))]) (wr := []) S (p_first  (by omega) (by omega) (by omega) (by omega)) (cwV 0 hts gX6_fastStatement_X6_acceptFirst rfl rfl rfl ⟨rfl, hd_X6_acceptFirst⟩ ⟨Nat.le_of_ble_eq_true rfl, Nat.le_of_ble_eq_true rfl⟩) hK hP hD hS hA [1, 2, 3, 0] [] rfl rfl (by decide +kernel) (by decide +kernel) (by decide +kernel) (va_recv hK.1 hPc (ci := 6) (q0 := 0) rfl rfl) rfl hl.1 rfl (Nat.le_of_ble_eq_true rfl) dX6_fastStatement_31 ⟨Nat.le_of_ble_eq_true rfl, Nat.le_of_ble_eq_true rfl⟩ (fun r_b2 u_b2 H locs hw_b2 hP hD hS => ?_)
      obtain ⟨n1_b2, n2_b2⟩ := u_b2
      have hw_b2 : ((r_b2.toInt = 1 ∧ kC tv_size tf_kinds n1_b1.toNatClampNeg = 3 ∧ n1_b2.toInt = n1_b1.toInt + 1) ∨ (r_b2.toInt = 0 ∧ ¬ kC tv_size tf_kinds n1_b1.toNatClampNeg = 3 ∧ n1_b2 = n1_b1)) ∧ n2_b2 = kC tv_size tf_values n1_b1.toNatClampNeg := hw_b2
      have hP : va_P D vwCl [(h, .inr (6, [.ref a_tokens, .ref a_kinds, .ref a_firsts, .ref a_seconds, .int v_size, .int n1_b2, .int n2_b2, .int v_second])), (a_tokens, .inr (9, [.ref ta_kinds, .ref ta_places, .ref ta_values, .int tv_size, .int tv_textLength])), (ta_kinds, .inl (cI, 97, .inl tf_kinds)), (ta_values, .inl (cI, 97, .inl tf_values))] H := hP
      have hD := asD hP hD
      have z_b2 := acc01 hw_b2.1
      have vv_b2 := hw_b2.2
      rw [x_b1] at vv_b2
      refine lv_if_eq (tgt := 57) hx hb dX6_fastStatement_34 (by decide) (fun c_4 => ?_) (fun c_4 => ?_)
      · have tc_4 := t_eq c_4
        have k_b2 := acc0 hw_b2.1 (by omega)
        rw [x_b1] at k_b2
        have x_b2 : n1_b2.toNatClampNeg = v_next.toNatClampNeg + 1 := by have z := ixs k_b2.2; omega
        have kn_b2 := k_b2.1
        have kt_b2 := k_b2.2
        refine lv_iconst (v := 0) hx hb dX6_fastStatement_57 (by decide) ?_
        refine lv_istore_n (lv' := [(1, .int 0), (0, .ref h)]) hx hb dX6_fastStatement_58 rfl hl (by decide) rfl (fun ls hl => ?_)
        refine lv_iload_n hx hb dX6_fastStatement_59 rfl (lv_at hl 0 rfl) ?_
        refine lv_if_eq (tgt := 67) hx hb dX6_fastStatement_60 (by decide) (fun c_5 => ?_) (fun c_5 => ?_)
        · have tc_5 := t_eq c_5
          refine lv_iconst (v := (-1)) hx hb dX6_fastStatement_67 (by decide) ?_
          exact hret (-1) (n1_b2, n2_b2, v_second) _ _ _ _ (show (-1 : Int32) = (fastG (kC tv_size tf_kinds) (kC tv_size tf_values) v_next.toNatClampNeg v_first v_second).1 ∧ n1_b2.toNatClampNeg = (fastG (kC tv_size tf_kinds) (kC tv_size tf_values) v_next.toNatClampNeg v_first v_second).2.1 ∧ v_next.toInt ≤ n1_b2.toInt ∧ n1_b2.toInt ≤ v_next.toInt + 4 ∧ ((-1 : Int32).toInt ≠ -1 → n2_b2 = (fastG (kC tv_size tf_kinds) (kC tv_size tf_values) v_next.toNatClampNeg v_first v_second).2.2.1 ∧ v_second = (fastG (kC tv_size tf_kinds) (kC tv_size tf_values) v_next.toNatClampNeg v_first v_second).2.2.2) from by unfold fastG; (repeat' split) <;> (try dsimp only) <;> first | contradiction | exact ⟨rfl, by omega, by omega, by omega, fun h => absurd kkm1 h⟩ | exact ⟨rfl, by omega, by omega, by omega, fun _ => ⟨by first | rfl | exact vv_a2 | exact vv_b2 | exact vv_b4, by first | rfl | exact vv_a2 | exact vv_b2 | exact vv_b4⟩⟩) rfl (hP.sub [0, 1, 2, 3] rfl) (hD.sub [0, 1, 2, 3] (by decide +kernel) rfl) hS dX6_fastStatement_68
        · exact absurd c_5 (by decide)
      · have tc_4 := t_neq c_4
        have k_b2 := acc1 hw_b2.1 (by omega)
        rw [x_b1] at k_b2
        have x_b2 : n1_b2.toNatClampNeg = v_next.toNatClampNeg + 2 := by have z := ix1 k_b2.2 (by omega); omega
        have kn_b2 := k_b2.1
        have kt_b2 := k_b2.2
        refine lv_aload_n hx hb dX6_fastStatement_37 rfl (lv_at hl 0 rfl) ?_
        refine lv_bipush (v := 7) hx hb dX6_fastStatement_38 (by decide) ?_
        have hPc := hP.sub (ws' := [(h, .inr (6, [.ref a_tokens, .ref a_kinds, .ref a_firsts, .ref a_seconds, .int v_size, .int n1_b2, .int n2_b2, .int v_second])), (a_tokens, .inr (9, [.ref ta_kinds, .ref ta_places, .ref ta_values, .int tv_size, .int tv_textLength])), (ta_kinds, .inl (cI, 97, .inl tf_kinds))]) [0, 1, 2] rfl
        refine rwV (As := [.int 7]) (rest := []) (wc := [(h, .inr (6, [.ref a_tokens, .ref a_kinds, .ref a_firsts, .ref a_seconds, .int v_size, .int n1_b2, .int n2_b2, .int v_second])), (a_tokens, .inr (9, [.ref ta_kinds, .ref ta_places, .ref ta_values, .int tv_size, .int tv_textLength])), (ta_kinds, .inl (cI, 97, .inl tf_kinds))]) (wr := [(ta_values, .inl (cI, 97, .inl tf_values))]) S (p_accept  (by omega) (by omega) (by omega) (by omega)) (cwV 1 hts gX6_fastStatement_X6_accept rfl rfl rfl ⟨rfl, hd_X6_accept⟩ ⟨Nat.le_of_ble_eq_true rfl, Nat.le_of_ble_eq_true rfl⟩) hK hP hD hS hA [0, 1, 2] [3] rfl rfl (by decide +kernel) (by decide +kernel) (by decide +kernel) (va_recv hK.1 hPc (ci := 6) (q0 := 0) rfl rfl) rfl hl.1 rfl (Nat.le_of_ble_eq_true rfl) dX6_fastStatement_40 ⟨Nat.le_of_ble_eq_true rfl, Nat.le_of_ble_eq_true rfl⟩ (fun r_b3 u_b3 H locs hw_b3 hP hD hS => ?_)
        obtain ⟨n1_b3, rfl⟩ : ∃ z, z = u_b3 := ⟨_, rfl⟩
        have hw_b3 : ((r_b3.toInt = 1 ∧ kC tv_size tf_kinds n1_b2.toNatClampNeg = (7 : Int32) ∧ n1_b3.toInt = n1_b2.toInt + 1) ∨ (r_b3.toInt = 0 ∧ ¬ kC tv_size tf_kinds n1_b2.toNatClampNeg = (7 : Int32) ∧ n1_b3 = n1_b2)) := hw_b3
        have hP : va_P D vwCl [(ta_values, .inl (cI, 97, .inl tf_values)), (h, .inr (6, [.ref a_tokens, .ref a_kinds, .ref a_firsts, .ref a_seconds, .int v_size, .int n1_b3, .int n2_b2, .int v_second])), (a_tokens, .inr (9, [.ref ta_kinds, .ref ta_places, .ref ta_values, .int tv_size, .int tv_textLength])), (ta_kinds, .inl (cI, 97, .inl tf_kinds))] H := hP
        have hD := asD hP hD
        have z_b3 := acc01 hw_b3
        refine lv_if_eq (tgt := 57) hx hb dX6_fastStatement_43 (by decide) (fun c_6 => ?_) (fun c_6 => ?_)
        · have tc_6 := t_eq c_6
          have k_b3 := acc0 hw_b3 (by omega)
          rw [x_b2] at k_b3
          have x_b3 : n1_b3.toNatClampNeg = v_next.toNatClampNeg + 2 := by have z := ixs k_b3.2; omega
          have kn_b3 := k_b3.1
          have kt_b3 := k_b3.2
          refine lv_iconst (v := 0) hx hb dX6_fastStatement_57 (by decide) ?_
          refine lv_istore_n (lv' := [(1, .int 0), (0, .ref h)]) hx hb dX6_fastStatement_58 rfl hl (by decide) rfl (fun ls hl => ?_)
          refine lv_iload_n hx hb dX6_fastStatement_59 rfl (lv_at hl 0 rfl) ?_
          refine lv_if_eq (tgt := 67) hx hb dX6_fastStatement_60 (by decide) (fun c_7 => ?_) (fun c_7 => ?_)
          · have tc_7 := t_eq c_7
            refine lv_iconst (v := (-1)) hx hb dX6_fastStatement_67 (by decide) ?_
            exact hret (-1) (n1_b3, n2_b2, v_second) _ _ _ _ (show (-1 : Int32) = (fastG (kC tv_size tf_kinds) (kC tv_size tf_values) v_next.toNatClampNeg v_first v_second).1 ∧ n1_b3.toNatClampNeg = (fastG (kC tv_size tf_kinds) (kC tv_size tf_values) v_next.toNatClampNeg v_first v_second).2.1 ∧ v_next.toInt ≤ n1_b3.toInt ∧ n1_b3.toInt ≤ v_next.toInt + 4 ∧ ((-1 : Int32).toInt ≠ -1 → n2_b2 = (fastG (kC tv_size tf_kinds) (kC tv_size tf_values) v_next.toNatClampNeg v_first v_second).2.2.1 ∧ v_second = (fastG (kC tv_size tf_kinds) (kC tv_size tf_values) v_next.toNatClampNeg v_first v_second).2.2.2) from by unfold fastG; (repeat' split) <;> (try dsimp only) <;> first | contradiction | exact ⟨rfl, by omega, by omega, by omega, fun h => absurd kkm1 h⟩ | exact ⟨rfl, by omega, by omega, by omega, fun _ => ⟨by first | rfl | exact vv_a2 | exact vv_b2 | exact vv_b4, by first | rfl | exact vv_a2 | exact vv_b2 | exact vv_b4⟩⟩) rfl (hP.sub [1, 2, 3, 0] rfl) (hD.sub [1, 2, 3, 0] (by decide +kernel) rfl) hS dX6_fastStatement_68
          · exact absurd c_7 (by decide)
        · have tc_6 := t_neq c_6
          have k_b3 := acc1 hw_b3 (by omega)
          rw [x_b2] at k_b3
          have x_b3 : n1_b3.toNatClampNeg = v_next.toNatClampNeg + 3 := by have z := ix1 k_b3.2 (by omega); omega
          have kn_b3 := k_b3.1
          have kt_b3 := k_b3.2
          refine lv_aload_n hx hb dX6_fastStatement_46 rfl (lv_at hl 0 rfl) ?_
          have hPc := hP.sub (ws' := [(h, .inr (6, [.ref a_tokens, .ref a_kinds, .ref a_firsts, .ref a_seconds, .int v_size, .int n1_b3, .int n2_b2, .int v_second])), (a_tokens, .inr (9, [.ref ta_kinds, .ref ta_places, .ref ta_values, .int tv_size, .int tv_textLength])), (ta_kinds, .inl (cI, 97, .inl tf_kinds)), (ta_values, .inl (cI, 97, .inl tf_values))]) [1, 2, 3, 0] rfl
          refine rwV (As := []) (rest := []) (wc := [(h, .inr (6, [.ref a_tokens, .ref a_kinds, .ref a_firsts, .ref a_seconds, .int v_size, .int n1_b3, .int n2_b2, .int v_second])), (a_tokens, .inr (9, [.ref ta_kinds, .ref ta_places, .ref ta_values, .int tv_size, .int tv_textLength])), (ta_kinds, .inl (cI, 97, .inl tf_kinds)), (ta_values, .inl (cI, 97, .inl tf_values))]) (wr := []) S (p_second  (by omega) (by omega) (by omega) (by omega)) (cwV 0 hts gX6_fastStatement_X6_acceptSecond rfl rfl rfl ⟨rfl, hd_X6_acceptSecond⟩ ⟨Nat.le_of_ble_eq_true rfl, Nat.le_of_ble_eq_true rfl⟩) hK hP hD hS hA [1, 2, 3, 0] [] rfl rfl (by decide +kernel) (by decide +kernel) (by decide +kernel) (va_recv hK.1 hPc (ci := 6) (q0 := 0) rfl rfl) rfl hl.1 rfl (Nat.le_of_ble_eq_true rfl) dX6_fastStatement_47 ⟨Nat.le_of_ble_eq_true rfl, Nat.le_of_ble_eq_true rfl⟩ (fun r_b4 u_b4 H locs hw_b4 hP hD hS => ?_)
          obtain ⟨n1_b4, n2_b4⟩ := u_b4
          have hw_b4 : ((r_b4.toInt = 1 ∧ kC tv_size tf_kinds n1_b3.toNatClampNeg = 3 ∧ n1_b4.toInt = n1_b3.toInt + 1) ∨ (r_b4.toInt = 0 ∧ ¬ kC tv_size tf_kinds n1_b3.toNatClampNeg = 3 ∧ n1_b4 = n1_b3)) ∧ n2_b4 = kC tv_size tf_values n1_b3.toNatClampNeg := hw_b4
          have hP : va_P D vwCl [(h, .inr (6, [.ref a_tokens, .ref a_kinds, .ref a_firsts, .ref a_seconds, .int v_size, .int n1_b4, .int n2_b2, .int n2_b4])), (a_tokens, .inr (9, [.ref ta_kinds, .ref ta_places, .ref ta_values, .int tv_size, .int tv_textLength])), (ta_kinds, .inl (cI, 97, .inl tf_kinds)), (ta_values, .inl (cI, 97, .inl tf_values))] H := hP
          have hD := asD hP hD
          have z_b4 := acc01 hw_b4.1
          have vv_b4 := hw_b4.2
          rw [x_b3] at vv_b4
          refine lv_if_eq (tgt := 57) hx hb dX6_fastStatement_50 (by decide) (fun c_8 => ?_) (fun c_8 => ?_)
          · have tc_8 := t_eq c_8
            have k_b4 := acc0 hw_b4.1 (by omega)
            rw [x_b3] at k_b4
            have x_b4 : n1_b4.toNatClampNeg = v_next.toNatClampNeg + 3 := by have z := ixs k_b4.2; omega
            have kn_b4 := k_b4.1
            have kt_b4 := k_b4.2
            refine lv_iconst (v := 0) hx hb dX6_fastStatement_57 (by decide) ?_
            refine lv_istore_n (lv' := [(1, .int 0), (0, .ref h)]) hx hb dX6_fastStatement_58 rfl hl (by decide) rfl (fun ls hl => ?_)
            refine lv_iload_n hx hb dX6_fastStatement_59 rfl (lv_at hl 0 rfl) ?_
            refine lv_if_eq (tgt := 67) hx hb dX6_fastStatement_60 (by decide) (fun c_9 => ?_) (fun c_9 => ?_)
            · have tc_9 := t_eq c_9
              refine lv_iconst (v := (-1)) hx hb dX6_fastStatement_67 (by decide) ?_
              exact hret (-1) (n1_b4, n2_b2, n2_b4) _ _ _ _ (show (-1 : Int32) = (fastG (kC tv_size tf_kinds) (kC tv_size tf_values) v_next.toNatClampNeg v_first v_second).1 ∧ n1_b4.toNatClampNeg = (fastG (kC tv_size tf_kinds) (kC tv_size tf_values) v_next.toNatClampNeg v_first v_second).2.1 ∧ v_next.toInt ≤ n1_b4.toInt ∧ n1_b4.toInt ≤ v_next.toInt + 4 ∧ ((-1 : Int32).toInt ≠ -1 → n2_b2 = (fastG (kC tv_size tf_kinds) (kC tv_size tf_values) v_next.toNatClampNeg v_first v_second).2.2.1 ∧ n2_b4 = (fastG (kC tv_size tf_kinds) (kC tv_size tf_values) v_next.toNatClampNeg v_first v_second).2.2.2) from by unfold fastG; (repeat' split) <;> (try dsimp only) <;> first | contradiction | exact ⟨rfl, by omega, by omega, by omega, fun h => absurd kkm1 h⟩ | exact ⟨rfl, by omega, by omega, by omega, fun _ => ⟨by first | rfl | exact vv_a2 | exact vv_b2 | exact vv_b4, by first | rfl | exact vv_a2 | exact vv_b2 | exact vv_b4⟩⟩) rfl (hP.sub [0, 1, 2, 3] rfl) (hD.sub [0, 1, 2, 3] (by decide +kernel) rfl) hS dX6_fastStatement_68
            · exact absurd c_9 (by decide)
          · have tc_8 := t_neq c_8
            have k_b4 := acc1 hw_b4.1 (by omega)
            rw [x_b3] at k_b4
            have x_b4 : n1_b4.toNatClampNeg = v_next.toNatClampNeg + 4 := by have z := ix1 k_b4.2 (by omega); omega
            have kn_b4 := k_b4.1
            have kt_b4 := k_b4.2
            refine lv_iconst (v := 1) hx hb dX6_fastStatement_53 (by decide) ?_
            refine lv_goto (tgt := 58) hx hb dX6_fastStatement_54 (by decide) ?_
            refine lv_istore_n (lv' := [(1, .int 1), (0, .ref h)]) hx hb dX6_fastStatement_58 rfl hl (by decide) rfl (fun ls hl => ?_)
            refine lv_iload_n hx hb dX6_fastStatement_59 rfl (lv_at hl 0 rfl) ?_
            refine lv_if_eq (tgt := 67) hx hb dX6_fastStatement_60 (by decide) (fun c_10 => ?_) (fun c_10 => ?_)
            · exact absurd c_10 (by decide)
            · have tc_10 := t_neq c_10
              refine lv_iconst (v := 2) hx hb dX6_fastStatement_63 (by decide) ?_
              refine lv_goto (tgt := 68) hx hb dX6_fastStatement_64 (by decide) ?_
              exact hret 2 (n1_b4, n2_b2, n2_b4) _ _ _ _ (show (2 : Int32) = (fastG (kC tv_size tf_kinds) (kC tv_size tf_values) v_next.toNatClampNeg v_first v_second).1 ∧ n1_b4.toNatClampNeg = (fastG (kC tv_size tf_kinds) (kC tv_size tf_values) v_next.toNatClampNeg v_first v_second).2.1 ∧ v_next.toInt ≤ n1_b4.toInt ∧ n1_b4.toInt ≤ v_next.toInt + 4 ∧ ((2 : Int32).toInt ≠ -1 → n2_b2 = (fastG (kC tv_size tf_kinds) (kC tv_size tf_values) v_next.toNatClampNeg v_first v_second).2.2.1 ∧ n2_b4 = (fastG (kC tv_size tf_kinds) (kC tv_size tf_values) v_next.toNatClampNeg v_first v_second).2.2.2) from by unfold fastG; (repeat' split) <;> (try dsimp only) <;> first | contradiction | exact ⟨rfl, by omega, by omega, by omega, fun h => absurd kkm1 h⟩ | exact ⟨rfl, by omega, by omega, by omega, fun _ => ⟨by first | rfl | exact vv_a2 | exact vv_b2 | exact vv_b4, by first | rfl | exact vv_a2 | exact vv_b2 | exact vv_b4⟩⟩) rfl (hP.sub [0, 1, 2, 3] rfl) (hD.sub [0, 1, 2, 3] (by decide +kernel) rfl) hS dX6_fastStatement_68
  · have tc_1 := t_neq c_1
    have k_a1 := acc1 hw_a1 (by omega)
    have x_a1 : n1_a1.toNatClampNeg = v_next.toNatClampNeg + 1 := by have z := ix1 k_a1.2 (by omega); omega
    have kn_a1 := k_a1.1
    have kt_a1 := k_a1.2
    refine lv_aload_n hx hb dX6_fastStatement_8 rfl (lv_at hl 0 rfl) ?_
    have hPc := hP.sub (ws' := [(h, .inr (6, [.ref a_tokens, .ref a_kinds, .ref a_firsts, .ref a_seconds, .int v_size, .int n1_a1, .int v_first, .int v_second])), (a_tokens, .inr (9, [.ref ta_kinds, .ref ta_places, .ref ta_values, .int tv_size, .int tv_textLength])), (ta_kinds, .inl (cI, 97, .inl tf_kinds)), (ta_values, .inl (cI, 97, .inl tf_values))]) [1, 2, 3, 0] rfl
    refine rwV (As := []) (rest := []) (wc := [(h, .inr (6, [.ref a_tokens, .ref a_kinds, .ref a_firsts, .ref a_seconds, .int v_size, .int n1_a1, .int v_first, .int v_second])), (a_tokens, .inr (9, [.ref ta_kinds, .ref ta_places, .ref ta_values, .int tv_size, .int tv_textLength])), (ta_kinds, .inl (cI, 97, .inl tf_kinds)), (ta_values, .inl (cI, 97, .inl tf_values))]) (wr := []) S (p_first  (by omega) (by omega) (by omega) (by omega)) (cwV 0 hts gX6_fastStatement_X6_acceptFirst rfl rfl rfl ⟨rfl, hd_X6_acceptFirst⟩ ⟨Nat.le_of_ble_eq_true rfl, Nat.le_of_ble_eq_true rfl⟩) hK hP hD hS hA [1, 2, 3, 0] [] rfl rfl (by decide +kernel) (by decide +kernel) (by decide +kernel) (va_recv hK.1 hPc (ci := 6) (q0 := 0) rfl rfl) rfl hl.1 rfl (Nat.le_of_ble_eq_true rfl) dX6_fastStatement_9 ⟨Nat.le_of_ble_eq_true rfl, Nat.le_of_ble_eq_true rfl⟩ (fun r_a2 u_a2 H locs hw_a2 hP hD hS => ?_)
    obtain ⟨n1_a2, n2_a2⟩ := u_a2
    have hw_a2 : ((r_a2.toInt = 1 ∧ kC tv_size tf_kinds n1_a1.toNatClampNeg = 3 ∧ n1_a2.toInt = n1_a1.toInt + 1) ∨ (r_a2.toInt = 0 ∧ ¬ kC tv_size tf_kinds n1_a1.toNatClampNeg = 3 ∧ n1_a2 = n1_a1)) ∧ n2_a2 = kC tv_size tf_values n1_a1.toNatClampNeg := hw_a2
    have hP : va_P D vwCl [(h, .inr (6, [.ref a_tokens, .ref a_kinds, .ref a_firsts, .ref a_seconds, .int v_size, .int n1_a2, .int n2_a2, .int v_second])), (a_tokens, .inr (9, [.ref ta_kinds, .ref ta_places, .ref ta_values, .int tv_size, .int tv_textLength])), (ta_kinds, .inl (cI, 97, .inl tf_kinds)), (ta_values, .inl (cI, 97, .inl tf_values))] H := hP
    have hD := asD hP hD
    have z_a2 := acc01 hw_a2.1
    have vv_a2 := hw_a2.2
    rw [x_a1] at vv_a2
    refine lv_if_eq (tgt := 19) hx hb dX6_fastStatement_12 (by decide) (fun c_11 => ?_) (fun c_11 => ?_)
    · have tc_11 := t_eq c_11
      have k_a2 := acc0 hw_a2.1 (by omega)
      rw [x_a1] at k_a2
      have x_a2 : n1_a2.toNatClampNeg = v_next.toNatClampNeg + 1 := by have z := ixs k_a2.2; omega
      have kn_a2 := k_a2.1
      have kt_a2 := k_a2.2
      refine lv_iconst (v := (-1)) hx hb dX6_fastStatement_19 (by decide) ?_
      exact hret (-1) (n1_a2, n2_a2, v_second) _ _ _ _ (show (-1 : Int32) = (fastG (kC tv_size tf_kinds) (kC tv_size tf_values) v_next.toNatClampNeg v_first v_second).1 ∧ n1_a2.toNatClampNeg = (fastG (kC tv_size tf_kinds) (kC tv_size tf_values) v_next.toNatClampNeg v_first v_second).2.1 ∧ v_next.toInt ≤ n1_a2.toInt ∧ n1_a2.toInt ≤ v_next.toInt + 4 ∧ ((-1 : Int32).toInt ≠ -1 → n2_a2 = (fastG (kC tv_size tf_kinds) (kC tv_size tf_values) v_next.toNatClampNeg v_first v_second).2.2.1 ∧ v_second = (fastG (kC tv_size tf_kinds) (kC tv_size tf_values) v_next.toNatClampNeg v_first v_second).2.2.2) from by unfold fastG; (repeat' split) <;> (try dsimp only) <;> first | contradiction | exact ⟨rfl, by omega, by omega, by omega, fun h => absurd kkm1 h⟩ | exact ⟨rfl, by omega, by omega, by omega, fun _ => ⟨by first | rfl | exact vv_a2 | exact vv_b2 | exact vv_b4, by first | rfl | exact vv_a2 | exact vv_b2 | exact vv_b4⟩⟩) rfl (hP.sub [0, 1, 2, 3] rfl) (hD.sub [0, 1, 2, 3] (by decide +kernel) rfl) hS dX6_fastStatement_20
    · have tc_11 := t_neq c_11
      have k_a2 := acc1 hw_a2.1 (by omega)
      rw [x_a1] at k_a2
      have x_a2 : n1_a2.toNatClampNeg = v_next.toNatClampNeg + 2 := by have z := ix1 k_a2.2 (by omega); omega
      have kn_a2 := k_a2.1
      have kt_a2 := k_a2.2
      refine lv_iconst (v := 1) hx hb dX6_fastStatement_15 (by decide) ?_
      refine lv_goto (tgt := 20) hx hb dX6_fastStatement_16 (by decide) ?_
      exact hret 1 (n1_a2, n2_a2, v_second) _ _ _ _ (show (1 : Int32) = (fastG (kC tv_size tf_kinds) (kC tv_size tf_values) v_next.toNatClampNeg v_first v_second).1 ∧ n1_a2.toNatClampNeg = (fastG (kC tv_size tf_kinds) (kC tv_size tf_values) v_next.toNatClampNeg v_first v_second).2.1 ∧ v_next.toInt ≤ n1_a2.toInt ∧ n1_a2.toInt ≤ v_next.toInt + 4 ∧ ((1 : Int32).toInt ≠ -1 → n2_a2 = (fastG (kC tv_size tf_kinds) (kC tv_size tf_values) v_next.toNatClampNeg v_first v_second).2.2.1 ∧ v_second = (fastG (kC tv_size tf_kinds) (kC tv_size tf_values) v_next.toNatClampNeg v_first v_second).2.2.2) from by unfold fastG; (repeat' split) <;> (try dsimp only) <;> first | contradiction | exact ⟨rfl, by omega, by omega, by omega, fun h => absurd kkm1 h⟩ | exact ⟨rfl, by omega, by omega, by omega, fun _ => ⟨by first | rfl | exact vv_a2 | exact vv_b2 | exact vv_b4, by first | rfl | exact vv_a2 | exact vv_b2 | exact vv_b4⟩⟩) rfl (hP.sub [0, 1, 2, 3] rfl) (hD.sub [0, 1, 2, 3] (by decide +kernel) rfl) hS dX6_fastStatement_20

set_option maxHeartbeats 8000000 in
set_option maxRecDepth 100000 in
theorem p_feedSt {l : Launch} {D : va_G} {cI cZ cB : ClassId} {sz : Nat} {h a_tokens a_kinds a_firsts a_seconds ta_kinds ta_places ta_values : Nat} {v_size v_next v_first v_second tv_size tv_textLength : Int32} {tf_kinds tf_values : Nat → Int32}  (htv_size0 : 0 ≤ tv_size.toInt) (htv_size1 : tv_size.toInt ≤ 97) (hn0 : 0 ≤ v_next.toInt) (hn1 : v_next.toInt ≤ 500) : Met l yX6_feedStatement wsX6_feedStatement ({ frames := 3, cells := 0, slots := 0, locals := 62 }) (RW D cI cZ cB [.ref h] sz [(h, .inr (6, [.ref a_tokens, .ref a_kinds, .ref a_firsts, .ref a_seconds, .int v_size, .int v_next, .int v_first, .int v_second])), (a_tokens, .inr (9, [.ref ta_kinds, .ref ta_places, .ref ta_values, .int tv_size, .int tv_textLength])), (ta_kinds, .inl (cI, 97, .inl tf_kinds)), (ta_values, .inl (cI, 97, .inl tf_values))]) (va_Qi (fun (r : Int32) (u : Int32 × Int32 × Int32) => r = (feedG (kC tv_size tf_kinds) (kC tv_size tf_values) v_next.toNatClampNeg v_first v_second).1 ∧ u.1.toNatClampNeg = (feedG (kC tv_size tf_kinds) (kC tv_size tf_values) v_next.toNatClampNeg v_first v_second).2.1 ∧ v_next.toInt ≤ u.1.toInt ∧ u.1.toInt ≤ v_next.toInt + 4 ∧ (r.toInt ≠ -1 → u.2.1 = (feedG (kC tv_size tf_kinds) (kC tv_size tf_values) v_next.toNatClampNeg v_first v_second).2.2.1 ∧ u.2.2 = (feedG (kC tv_size tf_kinds) (kC tv_size tf_values) v_next.toNatClampNeg v_first v_second).2.2.2)) (BW D [(h, .inr (6, [.ref a_tokens, .ref a_kinds, .ref a_firsts, .ref a_seconds, .int v_size, .int v_next, .int v_first, .int v_second])), (a_tokens, .inr (9, [.ref ta_kinds, .ref ta_places, .ref ta_values, .int tv_size, .int tv_textLength])), (ta_kinds, .inl (cI, 97, .inl tf_kinds)), (ta_values, .inl (cI, 97, .inl tf_values))] sz (fun u : Int32 × Int32 × Int32 => [(h, .inr (6, [.ref a_tokens, .ref a_kinds, .ref a_firsts, .ref a_seconds, .int v_size, .int u.1, .int u.2.1, .int u.2.2])), (a_tokens, .inr (9, [.ref ta_kinds, .ref ta_places, .ref ta_values, .int tv_size, .int tv_textLength])), (ta_kinds, .inl (cI, 97, .inl tf_kinds)), (ta_values, .inl (cI, 97, .inl tf_values))])) (va_A [(h, .inr (6, [.ref a_tokens, .ref a_kinds, .ref a_firsts, .ref a_seconds, .int v_size, .int v_next, .int v_first, .int v_second])), (a_tokens, .inr (9, [.ref ta_kinds, .ref ta_places, .ref ta_values, .int tv_size, .int tv_textLength])), (ta_kinds, .inl (cI, 97, .inl tf_kinds)), (ta_values, .inl (cI, 97, .inl tf_values))] sz)) 0 (0) (va_A [(h, .inr (6, [.ref a_tokens, .ref a_kinds, .ref a_firsts, .ref a_seconds, .int v_size, .int v_next, .int v_first, .int v_second])), (a_tokens, .inr (9, [.ref ta_kinds, .ref ta_places, .ref ta_values, .int tv_size, .int tv_textLength])), (ta_kinds, .inl (cI, 97, .inl tf_kinds)), (ta_values, .inl (cI, 97, .inl tf_values))] sz) := by
  refine rw_ret (cc := cX6_feedStatement) (maxL := 1) (ty := .int) (own := RX6) (by decide) rfl rfl (Nat.le_of_ble_eq_true rfl) ?_
  intro p e s m args below meth c Q A S hin hret hP hK hD hA hS ls hl
  obtain ⟨hx, hb, hml, hown, hts⟩ := id S
  have hl : lv_has ls 1 [(0, .ref h)] := hl
  have kkm1 : (-1 : Int32).toInt = -1 := by decide
  have kk0 : (0 : Int32).toInt = 0 := by decide
  have kk3 : (3 : Int32).toInt = 3 := by decide
  have kk4 : (4 : Int32).toInt = 4 := by decide
  have kk5 : (5 : Int32).toInt = 5 := by decide
  have kk6 : (6 : Int32).toInt = 6 := by decide
  have kk9 : (9 : Int32).toInt = 9 := by decide
  have kk10 : (10 : Int32).toInt = 10 := by decide
  refine lv_aload_n hx hb dX6_feedStatement_0 rfl (lv_at hl 0 rfl) ?_
  refine lv_iconst (v := 4) hx hb dX6_feedStatement_1 (by decide) ?_
  have hPc := hP.sub (ws' := [(h, .inr (6, [.ref a_tokens, .ref a_kinds, .ref a_firsts, .ref a_seconds, .int v_size, .int v_next, .int v_first, .int v_second])), (a_tokens, .inr (9, [.ref ta_kinds, .ref ta_places, .ref ta_values, .int tv_size, .int tv_textLength])), (ta_kinds, .inl (cI, 97, .inl tf_kinds))]) [0, 1, 2] rfl
  refine rwV (As := [.int 4]) (rest := []) (wc := [(h, .inr (6, [.ref a_tokens, .ref a_kinds, .ref a_firsts, .ref a_seconds, .int v_size, .int v_next, .int v_first, .int v_second])), (a_tokens, .inr (9, [.ref ta_kinds, .ref ta_places, .ref ta_values, .int tv_size, .int tv_textLength])), (ta_kinds, .inl (cI, 97, .inl tf_kinds))]) (wr := [(ta_values, .inl (cI, 97, .inl tf_values))]) S (p_accept  (by omega) (by omega) (by omega) (by omega)) (cwV 1 hts gX6_feedStatement_X6_accept rfl rfl rfl ⟨rfl, hd_X6_accept⟩ ⟨Nat.le_of_ble_eq_true rfl, Nat.le_of_ble_eq_true rfl⟩) hK hP hD hS hA [0, 1, 2] [3] rfl rfl (by decide +kernel) (by decide +kernel) (by decide +kernel) (va_recv hK.1 hPc (ci := 6) (q0 := 0) rfl rfl) rfl hl.1 rfl (Nat.le_of_ble_eq_true rfl) dX6_feedStatement_2 ⟨Nat.le_of_ble_eq_true rfl, Nat.le_of_ble_eq_true rfl⟩ (fun r_a1 u_a1 H locs hw_a1 hP hD hS => ?_)
  obtain ⟨n1_a1, rfl⟩ : ∃ z, z = u_a1 := ⟨_, rfl⟩
  have hw_a1 : ((r_a1.toInt = 1 ∧ kC tv_size tf_kinds v_next.toNatClampNeg = (4 : Int32) ∧ n1_a1.toInt = v_next.toInt + 1) ∨ (r_a1.toInt = 0 ∧ ¬ kC tv_size tf_kinds v_next.toNatClampNeg = (4 : Int32) ∧ n1_a1 = v_next)) := hw_a1
  have hP : va_P D vwCl [(ta_values, .inl (cI, 97, .inl tf_values)), (h, .inr (6, [.ref a_tokens, .ref a_kinds, .ref a_firsts, .ref a_seconds, .int v_size, .int n1_a1, .int v_first, .int v_second])), (a_tokens, .inr (9, [.ref ta_kinds, .ref ta_places, .ref ta_values, .int tv_size, .int tv_textLength])), (ta_kinds, .inl (cI, 97, .inl tf_kinds))] H := hP
  have hD := asD hP hD
  have z_a1 := acc01 hw_a1
  refine lv_if_eq (tgt := 21) hx hb dX6_feedStatement_5 (by decide) (fun c_1 => ?_) (fun c_1 => ?_)
  · have tc_1 := t_eq c_1
    have k_a1 := acc0 hw_a1 (by omega)
    have x_a1 : n1_a1.toNatClampNeg = v_next.toNatClampNeg := by have z := ixs k_a1.2; omega
    have kn_a1 := k_a1.1
    have kt_a1 := k_a1.2
    refine lv_aload_n hx hb dX6_feedStatement_21 rfl (lv_at hl 0 rfl) ?_
    refine lv_bipush (v := 9) hx hb dX6_feedStatement_22 (by decide) ?_
    have hPc := hP.sub (ws' := [(h, .inr (6, [.ref a_tokens, .ref a_kinds, .ref a_firsts, .ref a_seconds, .int v_size, .int n1_a1, .int v_first, .int v_second])), (a_tokens, .inr (9, [.ref ta_kinds, .ref ta_places, .ref ta_values, .int tv_size, .int tv_textLength])), (ta_kinds, .inl (cI, 97, .inl tf_kinds))]) [1, 2, 3] rfl
    refine rwV (As := [.int 9]) (rest := []) (wc := [(h, .inr (6, [.ref a_tokens, .ref a_kinds, .ref a_firsts, .ref a_seconds, .int v_size, .int n1_a1, .int v_first, .int v_second])), (a_tokens, .inr (9, [.ref ta_kinds, .ref ta_places, .ref ta_values, .int tv_size, .int tv_textLength])), (ta_kinds, .inl (cI, 97, .inl tf_kinds))]) (wr := [(ta_values, .inl (cI, 97, .inl tf_values))]) S (p_accept  (by omega) (by omega) (by omega) (by omega)) (cwV 1 hts gX6_feedStatement_X6_accept rfl rfl rfl ⟨rfl, hd_X6_accept⟩ ⟨Nat.le_of_ble_eq_true rfl, Nat.le_of_ble_eq_true rfl⟩) hK hP hD hS hA [1, 2, 3] [0] rfl rfl (by decide +kernel) (by decide +kernel) (by decide +kernel) (va_recv hK.1 hPc (ci := 6) (q0 := 0) rfl rfl) rfl hl.1 rfl (Nat.le_of_ble_eq_true rfl) dX6_feedStatement_24 ⟨Nat.le_of_ble_eq_true rfl, Nat.le_of_ble_eq_true rfl⟩ (fun r_b1 u_b1 H locs hw_b1 hP hD hS => ?_)
    obtain ⟨n1_b1, rfl⟩ : ∃ z, z = u_b1 := ⟨_, rfl⟩
    have hw_b1 : ((r_b1.toInt = 1 ∧ kC tv_size tf_kinds n1_a1.toNatClampNeg = (9 : Int32) ∧ n1_b1.toInt = n1_a1.toInt + 1) ∨ (r_b1.toInt = 0 ∧ ¬ kC tv_size tf_kinds n1_a1.toNatClampNeg = (9 : Int32) ∧ n1_b1 = n1_a1)) := hw_b1
    have hP : va_P D vwCl [(ta_values, .inl (cI, 97, .inl tf_values)), (h, .inr (6, [.ref a_tokens, .ref a_kinds, .ref a_firsts, .ref a_seconds, .int v_size, .int n1_b1, .int v_first, .int v_second])), (a_tokens, .inr (9, [.ref ta_kinds, .ref ta_places, .ref ta_values, .int tv_size, .int tv_textLength])), (ta_kinds, .inl (cI, 97, .inl tf_kinds))] H := hP
    have hD := asD hP hD
    have z_b1 := acc01 hw_b1
    refine lv_if_eq (tgt := 50) hx hb dX6_feedStatement_27 (by decide) (fun c_2 => ?_) (fun c_2 => ?_)
    · have tc_2 := t_eq c_2
      have k_b1 := acc0 hw_b1 (by omega)
      rw [x_a1] at k_b1
      have x_b1 : n1_b1.toNatClampNeg = v_next.toNatClampNeg := by have z := ixs k_b1.2; omega
      have kn_b1 := k_b1.1
      have kt_b1 := k_b1.2
      refine lv_aload_n hx hb dX6_feedStatement_50 rfl (lv_at hl 0 rfl) ?_
      refine lv_bipush (v := 10) hx hb dX6_feedStatement_51 (by decide) ?_
      have hPc := hP.sub (ws' := [(h, .inr (6, [.ref a_tokens, .ref a_kinds, .ref a_firsts, .ref a_seconds, .int v_size, .int n1_b1, .int v_first, .int v_second])), (a_tokens, .inr (9, [.ref ta_kinds, .ref ta_places, .ref ta_values, .int tv_size, .int tv_textLength])), (ta_kinds, .inl (cI, 97, .inl tf_kinds))]) [1, 2, 3] rfl
      refine rwV (As := [.int 10]) (rest := []) (wc := [(h, .inr (6, [.ref a_tokens, .ref a_kinds, .ref a_firsts, .ref a_seconds, .int v_size, .int n1_b1, .int v_first, .int v_second])), (a_tokens, .inr (9, [.ref ta_kinds, .ref ta_places, .ref ta_values, .int tv_size, .int tv_textLength])), (ta_kinds, .inl (cI, 97, .inl tf_kinds))]) (wr := [(ta_values, .inl (cI, 97, .inl tf_values))]) S (p_accept  (by omega) (by omega) (by omega) (by omega)) (cwV 1 hts gX6_feedStatement_X6_accept rfl rfl rfl ⟨rfl, hd_X6_accept⟩ ⟨Nat.le_of_ble_eq_true rfl, Nat.le_of_ble_eq_true rfl⟩) hK hP hD hS hA [1, 2, 3] [0] rfl rfl (by decide +kernel) (by decide +kernel) (by decide +kernel) (va_recv hK.1 hPc (ci := 6) (q0 := 0) rfl rfl) rfl hl.1 rfl (Nat.le_of_ble_eq_true rfl) dX6_feedStatement_53 ⟨Nat.le_of_ble_eq_true rfl, Nat.le_of_ble_eq_true rfl⟩ (fun r_c1 u_c1 H locs hw_c1 hP hD hS => ?_)
      obtain ⟨n1_c1, rfl⟩ : ∃ z, z = u_c1 := ⟨_, rfl⟩
      have hw_c1 : ((r_c1.toInt = 1 ∧ kC tv_size tf_kinds n1_b1.toNatClampNeg = (10 : Int32) ∧ n1_c1.toInt = n1_b1.toInt + 1) ∨ (r_c1.toInt = 0 ∧ ¬ kC tv_size tf_kinds n1_b1.toNatClampNeg = (10 : Int32) ∧ n1_c1 = n1_b1)) := hw_c1
      have hP : va_P D vwCl [(ta_values, .inl (cI, 97, .inl tf_values)), (h, .inr (6, [.ref a_tokens, .ref a_kinds, .ref a_firsts, .ref a_seconds, .int v_size, .int n1_c1, .int v_first, .int v_second])), (a_tokens, .inr (9, [.ref ta_kinds, .ref ta_places, .ref ta_values, .int tv_size, .int tv_textLength])), (ta_kinds, .inl (cI, 97, .inl tf_kinds))] H := hP
      have hD := asD hP hD
      have z_c1 := acc01 hw_c1
      refine lv_if_eq (tgt := 72) hx hb dX6_feedStatement_56 (by decide) (fun c_3 => ?_) (fun c_3 => ?_)
      · have tc_3 := t_eq c_3
        have k_c1 := acc0 hw_c1 (by omega)
        rw [x_b1] at k_c1
        have x_c1 : n1_c1.toNatClampNeg = v_next.toNatClampNeg := by have z := ixs k_c1.2; omega
        have kn_c1 := k_c1.1
        have kt_c1 := k_c1.2
        refine lv_aload_n hx hb dX6_feedStatement_72 rfl (lv_at hl 0 rfl) ?_
        have hPc := hP.sub (ws' := [(h, .inr (6, [.ref a_tokens, .ref a_kinds, .ref a_firsts, .ref a_seconds, .int v_size, .int n1_c1, .int v_first, .int v_second])), (a_tokens, .inr (9, [.ref ta_kinds, .ref ta_places, .ref ta_values, .int tv_size, .int tv_textLength])), (ta_kinds, .inl (cI, 97, .inl tf_kinds)), (ta_values, .inl (cI, 97, .inl tf_values))]) [1, 2, 3, 0] rfl
        refine rwV (As := []) (rest := []) (wc := [(h, .inr (6, [.ref a_tokens, .ref a_kinds, .ref a_firsts, .ref a_seconds, .int v_size, .int n1_c1, .int v_first, .int v_second])), (a_tokens, .inr (9, [.ref ta_kinds, .ref ta_places, .ref ta_values, .int tv_size, .int tv_textLength])), (ta_kinds, .inl (cI, 97, .inl tf_kinds)), (ta_values, .inl (cI, 97, .inl tf_values))]) (wr := []) S (p_second  (by omega) (by omega) (by omega) (by omega)) (cwV 0 hts gX6_feedStatement_X6_acceptSecond rfl rfl rfl ⟨rfl, hd_X6_acceptSecond⟩ ⟨Nat.le_of_ble_eq_true rfl, Nat.le_of_ble_eq_true rfl⟩) hK hP hD hS hA [1, 2, 3, 0] [] rfl rfl (by decide +kernel) (by decide +kernel) (by decide +kernel) (va_recv hK.1 hPc (ci := 6) (q0 := 0) rfl rfl) rfl hl.1 rfl (Nat.le_of_ble_eq_true rfl) dX6_feedStatement_73 ⟨Nat.le_of_ble_eq_true rfl, Nat.le_of_ble_eq_true rfl⟩ (fun r_d1 u_d1 H locs hw_d1 hP hD hS => ?_)
        obtain ⟨n1_d1, n2_d1⟩ := u_d1
        have hw_d1 : ((r_d1.toInt = 1 ∧ kC tv_size tf_kinds n1_c1.toNatClampNeg = 3 ∧ n1_d1.toInt = n1_c1.toInt + 1) ∨ (r_d1.toInt = 0 ∧ ¬ kC tv_size tf_kinds n1_c1.toNatClampNeg = 3 ∧ n1_d1 = n1_c1)) ∧ n2_d1 = kC tv_size tf_values n1_c1.toNatClampNeg := hw_d1
        have hP : va_P D vwCl [(h, .inr (6, [.ref a_tokens, .ref a_kinds, .ref a_firsts, .ref a_seconds, .int v_size, .int n1_d1, .int v_first, .int n2_d1])), (a_tokens, .inr (9, [.ref ta_kinds, .ref ta_places, .ref ta_values, .int tv_size, .int tv_textLength])), (ta_kinds, .inl (cI, 97, .inl tf_kinds)), (ta_values, .inl (cI, 97, .inl tf_values))] H := hP
        have hD := asD hP hD
        have z_d1 := acc01 hw_d1.1
        have vv_d1 := hw_d1.2
        rw [x_c1] at vv_d1
        refine lv_if_eq (tgt := 84) hx hb dX6_feedStatement_76 (by decide) (fun c_4 => ?_) (fun c_4 => ?_)
        · have tc_4 := t_eq c_4
          have k_d1 := acc0 hw_d1.1 (by omega)
          rw [x_c1] at k_d1
          have x_d1 : n1_d1.toNatClampNeg = v_next.toNatClampNeg := by have z := ixs k_d1.2; omega
          have kn_d1 := k_d1.1
          have kt_d1 := k_d1.2
          refine lv_iconst (v := (-1)) hx hb dX6_feedStatement_84 (by decide) ?_
          exact hret (-1) (n1_d1, v_first, n2_d1) _ _ _ _ (show (-1 : Int32) = (feedG (kC tv_size tf_kinds) (kC tv_size tf_values) v_next.toNatClampNeg v_first v_second).1 ∧ n1_d1.toNatClampNeg = (feedG (kC tv_size tf_kinds) (kC tv_size tf_values) v_next.toNatClampNeg v_first v_second).2.1 ∧ v_next.toInt ≤ n1_d1.toInt ∧ n1_d1.toInt ≤ v_next.toInt + 4 ∧ ((-1 : Int32).toInt ≠ -1 → v_first = (feedG (kC tv_size tf_kinds) (kC tv_size tf_values) v_next.toNatClampNeg v_first v_second).2.2.1 ∧ n2_d1 = (feedG (kC tv_size tf_kinds) (kC tv_size tf_values) v_next.toNatClampNeg v_first v_second).2.2.2) from by unfold feedG; (repeat' split) <;> (try dsimp only) <;> first | contradiction | exact ⟨rfl, by omega, by omega, by omega, fun h => absurd kkm1 h⟩ | exact ⟨rfl, by omega, by omega, by omega, fun _ => ⟨by first | rfl | exact vv_a2 | exact vv_b2 | exact vv_b3 | exact vv_c2 | exact vv_d1, by first | rfl | exact vv_a2 | exact vv_b2 | exact vv_b3 | exact vv_c2 | exact vv_d1⟩⟩) rfl (hP.sub [0, 1, 2, 3] rfl) (hD.sub [0, 1, 2, 3] (by decide +kernel) rfl) hS dX6_feedStatement_85
        · have tc_4 := t_neq c_4
          have k_d1 := acc1 hw_d1.1 (by omega)
          rw [x_c1] at k_d1
          have x_d1 : n1_d1.toNatClampNeg = v_next.toNatClampNeg + 1 := by have z := ix1 k_d1.2 (by omega); omega
          have kn_d1 := k_d1.1
          have kt_d1 := k_d1.2
          refine lv_bipush (v := 6) hx hb dX6_feedStatement_79 (by decide) ?_
          refine lv_goto (tgt := 85) hx hb dX6_feedStatement_81 (by decide) ?_
          exact hret 6 (n1_d1, v_first, n2_d1) _ _ _ _ (show (6 : Int32) = (feedG (kC tv_size tf_kinds) (kC tv_size tf_values) v_next.toNatClampNeg v_first v_second).1 ∧ n1_d1.toNatClampNeg = (feedG (kC tv_size tf_kinds) (kC tv_size tf_values) v_next.toNatClampNeg v_first v_second).2.1 ∧ v_next.toInt ≤ n1_d1.toInt ∧ n1_d1.toInt ≤ v_next.toInt + 4 ∧ ((6 : Int32).toInt ≠ -1 → v_first = (feedG (kC tv_size tf_kinds) (kC tv_size tf_values) v_next.toNatClampNeg v_first v_second).2.2.1 ∧ n2_d1 = (feedG (kC tv_size tf_kinds) (kC tv_size tf_values) v_next.toNatClampNeg v_first v_second).2.2.2) from by unfold feedG; (repeat' split) <;> (try dsimp only) <;> first | contradiction | exact ⟨rfl, by omega, by omega, by omega, fun h => absurd kkm1 h⟩ | exact ⟨rfl, by omega, by omega, by omega, fun _ => ⟨by first | rfl | exact vv_a2 | exact vv_b2 | exact vv_b3 | exact vv_c2 | exact vv_d1, by first | rfl | exact vv_a2 | exact vv_b2 | exact vv_b3 | exact vv_c2 | exact vv_d1⟩⟩) rfl (hP.sub [0, 1, 2, 3] rfl) (hD.sub [0, 1, 2, 3] (by decide +kernel) rfl) hS dX6_feedStatement_85
      · have tc_3 := t_neq c_3
        have k_c1 := acc1 hw_c1 (by omega)
        rw [x_b1] at k_c1
        have x_c1 : n1_c1.toNatClampNeg = v_next.toNatClampNeg + 1 := by have z := ix1 k_c1.2 (by omega); omega
        have kn_c1 := k_c1.1
        have kt_c1 := k_c1.2
        refine lv_aload_n hx hb dX6_feedStatement_59 rfl (lv_at hl 0 rfl) ?_
        have hPc := hP.sub (ws' := [(h, .inr (6, [.ref a_tokens, .ref a_kinds, .ref a_firsts, .ref a_seconds, .int v_size, .int n1_c1, .int v_first, .int v_second])), (a_tokens, .inr (9, [.ref ta_kinds, .ref ta_places, .ref ta_values, .int tv_size, .int tv_textLength])), (ta_kinds, .inl (cI, 97, .inl tf_kinds)), (ta_values, .inl (cI, 97, .inl tf_values))]) [1, 2, 3, 0] rfl
        refine rwV (As := []) (rest := []) (wc := [(h, .inr (6, [.ref a_tokens, .ref a_kinds, .ref a_firsts, .ref a_seconds, .int v_size, .int n1_c1, .int v_first, .int v_second])), (a_tokens, .inr (9, [.ref ta_kinds, .ref ta_places, .ref ta_values, .int tv_size, .int tv_textLength])), (ta_kinds, .inl (cI, 97, .inl tf_kinds)), (ta_values, .inl (cI, 97, .inl tf_values))]) (wr := []) S (p_second  (by omega) (by omega) (by omega) (by omega)) (cwV 0 hts gX6_feedStatement_X6_acceptSecond rfl rfl rfl ⟨rfl, hd_X6_acceptSecond⟩ ⟨Nat.le_of_ble_eq_true rfl, Nat.le_of_ble_eq_true rfl⟩) hK hP hD hS hA [1, 2, 3, 0] [] rfl rfl (by decide +kernel) (by decide +kernel) (by decide +kernel) (va_recv hK.1 hPc (ci := 6) (q0 := 0) rfl rfl) rfl hl.1 rfl (Nat.le_of_ble_eq_true rfl) dX6_feedStatement_60 ⟨Nat.le_of_ble_eq_true rfl, Nat.le_of_ble_eq_true rfl⟩ (fun r_c2 u_c2 H locs hw_c2 hP hD hS => ?_)
        obtain ⟨n1_c2, n2_c2⟩ := u_c2
        have hw_c2 : ((r_c2.toInt = 1 ∧ kC tv_size tf_kinds n1_c1.toNatClampNeg = 3 ∧ n1_c2.toInt = n1_c1.toInt + 1) ∨ (r_c2.toInt = 0 ∧ ¬ kC tv_size tf_kinds n1_c1.toNatClampNeg = 3 ∧ n1_c2 = n1_c1)) ∧ n2_c2 = kC tv_size tf_values n1_c1.toNatClampNeg := hw_c2
        have hP : va_P D vwCl [(h, .inr (6, [.ref a_tokens, .ref a_kinds, .ref a_firsts, .ref a_seconds, .int v_size, .int n1_c2, .int v_first, .int n2_c2])), (a_tokens, .inr (9, [.ref ta_kinds, .ref ta_places, .ref ta_values, .int tv_size, .int tv_textLength])), (ta_kinds, .inl (cI, 97, .inl tf_kinds)), (ta_values, .inl (cI, 97, .inl tf_values))] H := hP
        have hD := asD hP hD
        have z_c2 := acc01 hw_c2.1
        have vv_c2 := hw_c2.2
        rw [x_c1] at vv_c2
        refine lv_if_eq (tgt := 70) hx hb dX6_feedStatement_63 (by decide) (fun c_5 => ?_) (fun c_5 => ?_)
        · have tc_5 := t_eq c_5
          have k_c2 := acc0 hw_c2.1 (by omega)
          rw [x_c1] at k_c2
          have x_c2 : n1_c2.toNatClampNeg = v_next.toNatClampNeg + 1 := by have z := ixs k_c2.2; omega
          have kn_c2 := k_c2.1
          have kt_c2 := k_c2.2
          refine lv_iconst (v := (-1)) hx hb dX6_feedStatement_70 (by decide) ?_
          exact hret (-1) (n1_c2, v_first, n2_c2) _ _ _ _ (show (-1 : Int32) = (feedG (kC tv_size tf_kinds) (kC tv_size tf_values) v_next.toNatClampNeg v_first v_second).1 ∧ n1_c2.toNatClampNeg = (feedG (kC tv_size tf_kinds) (kC tv_size tf_values) v_next.toNatClampNeg v_first v_second).2.1 ∧ v_next.toInt ≤ n1_c2.toInt ∧ n1_c2.toInt ≤ v_next.toInt + 4 ∧ ((-1 : Int32).toInt ≠ -1 → v_first = (feedG (kC tv_size tf_kinds) (kC tv_size tf_values) v_next.toNatClampNeg v_first v_second).2.2.1 ∧ n2_c2 = (feedG (kC tv_size tf_kinds) (kC tv_size tf_values) v_next.toNatClampNeg v_first v_second).2.2.2) from by unfold feedG; (repeat' split) <;> (try dsimp only) <;> first | contradiction | exact ⟨rfl, by omega, by omega, by omega, fun h => absurd kkm1 h⟩ | exact ⟨rfl, by omega, by omega, by omega, fun _ => ⟨by first | rfl | exact vv_a2 | exact vv_b2 | exact vv_b3 | exact vv_c2 | exact vv_d1, by first | rfl | exact vv_a2 | exact vv_b2 | exact vv_b3 | exact vv_c2 | exact vv_d1⟩⟩) rfl (hP.sub [0, 1, 2, 3] rfl) (hD.sub [0, 1, 2, 3] (by decide +kernel) rfl) hS dX6_feedStatement_71
        · have tc_5 := t_neq c_5
          have k_c2 := acc1 hw_c2.1 (by omega)
          rw [x_c1] at k_c2
          have x_c2 : n1_c2.toNatClampNeg = v_next.toNatClampNeg + 2 := by have z := ix1 k_c2.2 (by omega); omega
          have kn_c2 := k_c2.1
          have kt_c2 := k_c2.2
          refine lv_iconst (v := 5) hx hb dX6_feedStatement_66 (by decide) ?_
          refine lv_goto (tgt := 71) hx hb dX6_feedStatement_67 (by decide) ?_
          exact hret 5 (n1_c2, v_first, n2_c2) _ _ _ _ (show (5 : Int32) = (feedG (kC tv_size tf_kinds) (kC tv_size tf_values) v_next.toNatClampNeg v_first v_second).1 ∧ n1_c2.toNatClampNeg = (feedG (kC tv_size tf_kinds) (kC tv_size tf_values) v_next.toNatClampNeg v_first v_second).2.1 ∧ v_next.toInt ≤ n1_c2.toInt ∧ n1_c2.toInt ≤ v_next.toInt + 4 ∧ ((5 : Int32).toInt ≠ -1 → v_first = (feedG (kC tv_size tf_kinds) (kC tv_size tf_values) v_next.toNatClampNeg v_first v_second).2.2.1 ∧ n2_c2 = (feedG (kC tv_size tf_kinds) (kC tv_size tf_values) v_next.toNatClampNeg v_first v_second).2.2.2) from by unfold feedG; (repeat' split) <;> (try dsimp only) <;> first | contradiction | exact ⟨rfl, by omega, by omega, by omega, fun h => absurd kkm1 h⟩ | exact ⟨rfl, by omega, by omega, by omega, fun _ => ⟨by first | rfl | exact vv_a2 | exact vv_b2 | exact vv_b3 | exact vv_c2 | exact vv_d1, by first | rfl | exact vv_a2 | exact vv_b2 | exact vv_b3 | exact vv_c2 | exact vv_d1⟩⟩) rfl (hP.sub [0, 1, 2, 3] rfl) (hD.sub [0, 1, 2, 3] (by decide +kernel) rfl) hS dX6_feedStatement_71
    · have tc_2 := t_neq c_2
      have k_b1 := acc1 hw_b1 (by omega)
      rw [x_a1] at k_b1
      have x_b1 : n1_b1.toNatClampNeg = v_next.toNatClampNeg + 1 := by have z := ix1 k_b1.2 (by omega); omega
      have kn_b1 := k_b1.1
      have kt_b1 := k_b1.2
      refine lv_aload_n hx hb dX6_feedStatement_30 rfl (lv_at hl 0 rfl) ?_
      have hPc := hP.sub (ws' := [(h, .inr (6, [.ref a_tokens, .ref a_kinds, .ref a_firsts, .ref a_seconds, .int v_size, .int n1_b1, .int v_first, .int v_second])), (a_tokens, .inr (9, [.ref ta_kinds, .ref ta_places, .ref ta_values, .int tv_size, .int tv_textLength])), (ta_kinds, .inl (cI, 97, .inl tf_kinds)), (ta_values, .inl (cI, 97, .inl tf_values))]) [1, 2, 3, 0] rfl
      refine rwV (As := []) (rest := []) (wc := [(h, .inr (6, [.ref a_tokens, .ref a_kinds, .ref a_firsts, .ref a_seconds, .int v_size, .int n1_b1, .int v_first, .int v_second])), (a_tokens, .inr (9, [.ref ta_kinds, .ref ta_places, .ref ta_values, .int tv_size, .int tv_textLength])), (ta_kinds, .inl (cI, 97, .inl tf_kinds)), (ta_values, .inl (cI, 97, .inl tf_values))]) (wr := []) S (p_first  (by omega) (by omega) (by omega) (by omega)) (cwV 0 hts gX6_feedStatement_X6_acceptFirst rfl rfl rfl ⟨rfl, hd_X6_acceptFirst⟩ ⟨Nat.le_of_ble_eq_true rfl, Nat.le_of_ble_eq_true rfl⟩) hK hP hD hS hA [1, 2, 3, 0] [] rfl rfl (by decide +kernel) (by decide +kernel) (by decide +kernel) (va_recv hK.1 hPc (ci := 6) (q0 := 0) rfl rfl) rfl hl.1 rfl (Nat.le_of_ble_eq_true rfl) dX6_feedStatement_31 ⟨Nat.le_of_ble_eq_true rfl, Nat.le_of_ble_eq_true rfl⟩ (fun r_b2 u_b2 H locs hw_b2 hP hD hS => ?_)
      obtain ⟨n1_b2, n2_b2⟩ := u_b2
      have hw_b2 : ((r_b2.toInt = 1 ∧ kC tv_size tf_kinds n1_b1.toNatClampNeg = 3 ∧ n1_b2.toInt = n1_b1.toInt + 1) ∨ (r_b2.toInt = 0 ∧ ¬ kC tv_size tf_kinds n1_b1.toNatClampNeg = 3 ∧ n1_b2 = n1_b1)) ∧ n2_b2 = kC tv_size tf_values n1_b1.toNatClampNeg := hw_b2
      have hP : va_P D vwCl [(h, .inr (6, [.ref a_tokens, .ref a_kinds, .ref a_firsts, .ref a_seconds, .int v_size, .int n1_b2, .int n2_b2, .int v_second])), (a_tokens, .inr (9, [.ref ta_kinds, .ref ta_places, .ref ta_values, .int tv_size, .int tv_textLength])), (ta_kinds, .inl (cI, 97, .inl tf_kinds)), (ta_values, .inl (cI, 97, .inl tf_values))] H := hP
      have hD := asD hP hD
      have z_b2 := acc01 hw_b2.1
      have vv_b2 := hw_b2.2
      rw [x_b1] at vv_b2
      refine lv_if_eq (tgt := 48) hx hb dX6_feedStatement_34 (by decide) (fun c_6 => ?_) (fun c_6 => ?_)
      · have tc_6 := t_eq c_6
        have k_b2 := acc0 hw_b2.1 (by omega)
        rw [x_b1] at k_b2
        have x_b2 : n1_b2.toNatClampNeg = v_next.toNatClampNeg + 1 := by have z := ixs k_b2.2; omega
        have kn_b2 := k_b2.1
        have kt_b2 := k_b2.2
        refine lv_iconst (v := (-1)) hx hb dX6_feedStatement_48 (by decide) ?_
        exact hret (-1) (n1_b2, n2_b2, v_second) _ _ _ _ (show (-1 : Int32) = (feedG (kC tv_size tf_kinds) (kC tv_size tf_values) v_next.toNatClampNeg v_first v_second).1 ∧ n1_b2.toNatClampNeg = (feedG (kC tv_size tf_kinds) (kC tv_size tf_values) v_next.toNatClampNeg v_first v_second).2.1 ∧ v_next.toInt ≤ n1_b2.toInt ∧ n1_b2.toInt ≤ v_next.toInt + 4 ∧ ((-1 : Int32).toInt ≠ -1 → n2_b2 = (feedG (kC tv_size tf_kinds) (kC tv_size tf_values) v_next.toNatClampNeg v_first v_second).2.2.1 ∧ v_second = (feedG (kC tv_size tf_kinds) (kC tv_size tf_values) v_next.toNatClampNeg v_first v_second).2.2.2) from by unfold feedG; (repeat' split) <;> (try dsimp only) <;> first | contradiction | exact ⟨rfl, by omega, by omega, by omega, fun h => absurd kkm1 h⟩ | exact ⟨rfl, by omega, by omega, by omega, fun _ => ⟨by first | rfl | exact vv_a2 | exact vv_b2 | exact vv_b3 | exact vv_c2 | exact vv_d1, by first | rfl | exact vv_a2 | exact vv_b2 | exact vv_b3 | exact vv_c2 | exact vv_d1⟩⟩) rfl (hP.sub [0, 1, 2, 3] rfl) (hD.sub [0, 1, 2, 3] (by decide +kernel) rfl) hS dX6_feedStatement_49
      · have tc_6 := t_neq c_6
        have k_b2 := acc1 hw_b2.1 (by omega)
        rw [x_b1] at k_b2
        have x_b2 : n1_b2.toNatClampNeg = v_next.toNatClampNeg + 2 := by have z := ix1 k_b2.2 (by omega); omega
        have kn_b2 := k_b2.1
        have kt_b2 := k_b2.2
        refine lv_aload_n hx hb dX6_feedStatement_37 rfl (lv_at hl 0 rfl) ?_
        have hPc := hP.sub (ws' := [(h, .inr (6, [.ref a_tokens, .ref a_kinds, .ref a_firsts, .ref a_seconds, .int v_size, .int n1_b2, .int n2_b2, .int v_second])), (a_tokens, .inr (9, [.ref ta_kinds, .ref ta_places, .ref ta_values, .int tv_size, .int tv_textLength])), (ta_kinds, .inl (cI, 97, .inl tf_kinds)), (ta_values, .inl (cI, 97, .inl tf_values))]) [0, 1, 2, 3] rfl
        refine rwV (As := []) (rest := []) (wc := [(h, .inr (6, [.ref a_tokens, .ref a_kinds, .ref a_firsts, .ref a_seconds, .int v_size, .int n1_b2, .int n2_b2, .int v_second])), (a_tokens, .inr (9, [.ref ta_kinds, .ref ta_places, .ref ta_values, .int tv_size, .int tv_textLength])), (ta_kinds, .inl (cI, 97, .inl tf_kinds)), (ta_values, .inl (cI, 97, .inl tf_values))]) (wr := []) S (p_second  (by omega) (by omega) (by omega) (by omega)) (cwV 0 hts gX6_feedStatement_X6_acceptSecond rfl rfl rfl ⟨rfl, hd_X6_acceptSecond⟩ ⟨Nat.le_of_ble_eq_true rfl, Nat.le_of_ble_eq_true rfl⟩) hK hP hD hS hA [0, 1, 2, 3] [] rfl rfl (by decide +kernel) (by decide +kernel) (by decide +kernel) (va_recv hK.1 hPc (ci := 6) (q0 := 0) rfl rfl) rfl hl.1 rfl (Nat.le_of_ble_eq_true rfl) dX6_feedStatement_38 ⟨Nat.le_of_ble_eq_true rfl, Nat.le_of_ble_eq_true rfl⟩ (fun r_b3 u_b3 H locs hw_b3 hP hD hS => ?_)
        obtain ⟨n1_b3, n2_b3⟩ := u_b3
        have hw_b3 : ((r_b3.toInt = 1 ∧ kC tv_size tf_kinds n1_b2.toNatClampNeg = 3 ∧ n1_b3.toInt = n1_b2.toInt + 1) ∨ (r_b3.toInt = 0 ∧ ¬ kC tv_size tf_kinds n1_b2.toNatClampNeg = 3 ∧ n1_b3 = n1_b2)) ∧ n2_b3 = kC tv_size tf_values n1_b2.toNatClampNeg := hw_b3
        have hP : va_P D vwCl [(h, .inr (6, [.ref a_tokens, .ref a_kinds, .ref a_firsts, .ref a_seconds, .int v_size, .int n1_b3, .int n2_b2, .int n2_b3])), (a_tokens, .inr (9, [.ref ta_kinds, .ref ta_places, .ref ta_values, .int tv_size, .int tv_textLength])), (ta_kinds, .inl (cI, 97, .inl tf_kinds)), (ta_values, .inl (cI, 97, .inl tf_values))] H := hP
        have hD := asD hP hD
        have z_b3 := acc01 hw_b3.1
        have vv_b3 := hw_b3.2
        rw [x_b2] at vv_b3
        refine lv_if_eq (tgt := 48) hx hb dX6_feedStatement_41 (by decide) (fun c_7 => ?_) (fun c_7 => ?_)
        · have tc_7 := t_eq c_7
          have k_b3 := acc0 hw_b3.1 (by omega)
          rw [x_b2] at k_b3
          have x_b3 : n1_b3.toNatClampNeg = v_next.toNatClampNeg + 2 := by have z := ixs k_b3.2; omega
          have kn_b3 := k_b3.1
          have kt_b3 := k_b3.2
          refine lv_iconst (v := (-1)) hx hb dX6_feedStatement_48 (by decide) ?_
          exact hret (-1) (n1_b3, n2_b2, n2_b3) _ _ _ _ (show (-1 : Int32) = (feedG (kC tv_size tf_kinds) (kC tv_size tf_values) v_next.toNatClampNeg v_first v_second).1 ∧ n1_b3.toNatClampNeg = (feedG (kC tv_size tf_kinds) (kC tv_size tf_values) v_next.toNatClampNeg v_first v_second).2.1 ∧ v_next.toInt ≤ n1_b3.toInt ∧ n1_b3.toInt ≤ v_next.toInt + 4 ∧ ((-1 : Int32).toInt ≠ -1 → n2_b2 = (feedG (kC tv_size tf_kinds) (kC tv_size tf_values) v_next.toNatClampNeg v_first v_second).2.2.1 ∧ n2_b3 = (feedG (kC tv_size tf_kinds) (kC tv_size tf_values) v_next.toNatClampNeg v_first v_second).2.2.2) from by unfold feedG; (repeat' split) <;> (try dsimp only) <;> first | contradiction | exact ⟨rfl, by omega, by omega, by omega, fun h => absurd kkm1 h⟩ | exact ⟨rfl, by omega, by omega, by omega, fun _ => ⟨by first | rfl | exact vv_a2 | exact vv_b2 | exact vv_b3 | exact vv_c2 | exact vv_d1, by first | rfl | exact vv_a2 | exact vv_b2 | exact vv_b3 | exact vv_c2 | exact vv_d1⟩⟩) rfl (hP.sub [0, 1, 2, 3] rfl) (hD.sub [0, 1, 2, 3] (by decide +kernel) rfl) hS dX6_feedStatement_49
        · have tc_7 := t_neq c_7
          have k_b3 := acc1 hw_b3.1 (by omega)
          rw [x_b2] at k_b3
          have x_b3 : n1_b3.toNatClampNeg = v_next.toNatClampNeg + 3 := by have z := ix1 k_b3.2 (by omega); omega
          have kn_b3 := k_b3.1
          have kt_b3 := k_b3.2
          refine lv_iconst (v := 4) hx hb dX6_feedStatement_44 (by decide) ?_
          refine lv_goto (tgt := 49) hx hb dX6_feedStatement_45 (by decide) ?_
          exact hret 4 (n1_b3, n2_b2, n2_b3) _ _ _ _ (show (4 : Int32) = (feedG (kC tv_size tf_kinds) (kC tv_size tf_values) v_next.toNatClampNeg v_first v_second).1 ∧ n1_b3.toNatClampNeg = (feedG (kC tv_size tf_kinds) (kC tv_size tf_values) v_next.toNatClampNeg v_first v_second).2.1 ∧ v_next.toInt ≤ n1_b3.toInt ∧ n1_b3.toInt ≤ v_next.toInt + 4 ∧ ((4 : Int32).toInt ≠ -1 → n2_b2 = (feedG (kC tv_size tf_kinds) (kC tv_size tf_values) v_next.toNatClampNeg v_first v_second).2.2.1 ∧ n2_b3 = (feedG (kC tv_size tf_kinds) (kC tv_size tf_values) v_next.toNatClampNeg v_first v_second).2.2.2) from by unfold feedG; (repeat' split) <;> (try dsimp only) <;> first | contradiction | exact ⟨rfl, by omega, by omega, by omega, fun h => absurd kkm1 h⟩ | exact ⟨rfl, by omega, by omega, by omega, fun _ => ⟨by first | rfl | exact vv_a2 | exact vv_b2 | exact vv_b3 | exact vv_c2 | exact vv_d1, by first | rfl | exact vv_a2 | exact vv_b2 | exact vv_b3 | exact vv_c2 | exact vv_d1⟩⟩) rfl (hP.sub [0, 1, 2, 3] rfl) (hD.sub [0, 1, 2, 3] (by decide +kernel) rfl) hS dX6_feedStatement_49
  · have tc_1 := t_neq c_1
    have k_a1 := acc1 hw_a1 (by omega)
    have x_a1 : n1_a1.toNatClampNeg = v_next.toNatClampNeg + 1 := by have z := ix1 k_a1.2 (by omega); omega
    have kn_a1 := k_a1.1
    have kt_a1 := k_a1.2
    refine lv_aload_n hx hb dX6_feedStatement_8 rfl (lv_at hl 0 rfl) ?_
    have hPc := hP.sub (ws' := [(h, .inr (6, [.ref a_tokens, .ref a_kinds, .ref a_firsts, .ref a_seconds, .int v_size, .int n1_a1, .int v_first, .int v_second])), (a_tokens, .inr (9, [.ref ta_kinds, .ref ta_places, .ref ta_values, .int tv_size, .int tv_textLength])), (ta_kinds, .inl (cI, 97, .inl tf_kinds)), (ta_values, .inl (cI, 97, .inl tf_values))]) [1, 2, 3, 0] rfl
    refine rwV (As := []) (rest := []) (wc := [(h, .inr (6, [.ref a_tokens, .ref a_kinds, .ref a_firsts, .ref a_seconds, .int v_size, .int n1_a1, .int v_first, .int v_second])), (a_tokens, .inr (9, [.ref ta_kinds, .ref ta_places, .ref ta_values, .int tv_size, .int tv_textLength])), (ta_kinds, .inl (cI, 97, .inl tf_kinds)), (ta_values, .inl (cI, 97, .inl tf_values))]) (wr := []) S (p_second  (by omega) (by omega) (by omega) (by omega)) (cwV 0 hts gX6_feedStatement_X6_acceptSecond rfl rfl rfl ⟨rfl, hd_X6_acceptSecond⟩ ⟨Nat.le_of_ble_eq_true rfl, Nat.le_of_ble_eq_true rfl⟩) hK hP hD hS hA [1, 2, 3, 0] [] rfl rfl (by decide +kernel) (by decide +kernel) (by decide +kernel) (va_recv hK.1 hPc (ci := 6) (q0 := 0) rfl rfl) rfl hl.1 rfl (Nat.le_of_ble_eq_true rfl) dX6_feedStatement_9 ⟨Nat.le_of_ble_eq_true rfl, Nat.le_of_ble_eq_true rfl⟩ (fun r_a2 u_a2 H locs hw_a2 hP hD hS => ?_)
    obtain ⟨n1_a2, n2_a2⟩ := u_a2
    have hw_a2 : ((r_a2.toInt = 1 ∧ kC tv_size tf_kinds n1_a1.toNatClampNeg = 3 ∧ n1_a2.toInt = n1_a1.toInt + 1) ∨ (r_a2.toInt = 0 ∧ ¬ kC tv_size tf_kinds n1_a1.toNatClampNeg = 3 ∧ n1_a2 = n1_a1)) ∧ n2_a2 = kC tv_size tf_values n1_a1.toNatClampNeg := hw_a2
    have hP : va_P D vwCl [(h, .inr (6, [.ref a_tokens, .ref a_kinds, .ref a_firsts, .ref a_seconds, .int v_size, .int n1_a2, .int v_first, .int n2_a2])), (a_tokens, .inr (9, [.ref ta_kinds, .ref ta_places, .ref ta_values, .int tv_size, .int tv_textLength])), (ta_kinds, .inl (cI, 97, .inl tf_kinds)), (ta_values, .inl (cI, 97, .inl tf_values))] H := hP
    have hD := asD hP hD
    have z_a2 := acc01 hw_a2.1
    have vv_a2 := hw_a2.2
    rw [x_a1] at vv_a2
    refine lv_if_eq (tgt := 19) hx hb dX6_feedStatement_12 (by decide) (fun c_8 => ?_) (fun c_8 => ?_)
    · have tc_8 := t_eq c_8
      have k_a2 := acc0 hw_a2.1 (by omega)
      rw [x_a1] at k_a2
      have x_a2 : n1_a2.toNatClampNeg = v_next.toNatClampNeg + 1 := by have z := ixs k_a2.2; omega
      have kn_a2 := k_a2.1
      have kt_a2 := k_a2.2
      refine lv_iconst (v := (-1)) hx hb dX6_feedStatement_19 (by decide) ?_
      exact hret (-1) (n1_a2, v_first, n2_a2) _ _ _ _ (show (-1 : Int32) = (feedG (kC tv_size tf_kinds) (kC tv_size tf_values) v_next.toNatClampNeg v_first v_second).1 ∧ n1_a2.toNatClampNeg = (feedG (kC tv_size tf_kinds) (kC tv_size tf_values) v_next.toNatClampNeg v_first v_second).2.1 ∧ v_next.toInt ≤ n1_a2.toInt ∧ n1_a2.toInt ≤ v_next.toInt + 4 ∧ ((-1 : Int32).toInt ≠ -1 → v_first = (feedG (kC tv_size tf_kinds) (kC tv_size tf_values) v_next.toNatClampNeg v_first v_second).2.2.1 ∧ n2_a2 = (feedG (kC tv_size tf_kinds) (kC tv_size tf_values) v_next.toNatClampNeg v_first v_second).2.2.2) from by unfold feedG; (repeat' split) <;> (try dsimp only) <;> first | contradiction | exact ⟨rfl, by omega, by omega, by omega, fun h => absurd kkm1 h⟩ | exact ⟨rfl, by omega, by omega, by omega, fun _ => ⟨by first | rfl | exact vv_a2 | exact vv_b2 | exact vv_b3 | exact vv_c2 | exact vv_d1, by first | rfl | exact vv_a2 | exact vv_b2 | exact vv_b3 | exact vv_c2 | exact vv_d1⟩⟩) rfl (hP.sub [0, 1, 2, 3] rfl) (hD.sub [0, 1, 2, 3] (by decide +kernel) rfl) hS dX6_feedStatement_20
    · have tc_8 := t_neq c_8
      have k_a2 := acc1 hw_a2.1 (by omega)
      rw [x_a1] at k_a2
      have x_a2 : n1_a2.toNatClampNeg = v_next.toNatClampNeg + 2 := by have z := ix1 k_a2.2 (by omega); omega
      have kn_a2 := k_a2.1
      have kt_a2 := k_a2.2
      refine lv_iconst (v := 3) hx hb dX6_feedStatement_15 (by decide) ?_
      refine lv_goto (tgt := 20) hx hb dX6_feedStatement_16 (by decide) ?_
      exact hret 3 (n1_a2, v_first, n2_a2) _ _ _ _ (show (3 : Int32) = (feedG (kC tv_size tf_kinds) (kC tv_size tf_values) v_next.toNatClampNeg v_first v_second).1 ∧ n1_a2.toNatClampNeg = (feedG (kC tv_size tf_kinds) (kC tv_size tf_values) v_next.toNatClampNeg v_first v_second).2.1 ∧ v_next.toInt ≤ n1_a2.toInt ∧ n1_a2.toInt ≤ v_next.toInt + 4 ∧ ((3 : Int32).toInt ≠ -1 → v_first = (feedG (kC tv_size tf_kinds) (kC tv_size tf_values) v_next.toNatClampNeg v_first v_second).2.2.1 ∧ n2_a2 = (feedG (kC tv_size tf_kinds) (kC tv_size tf_values) v_next.toNatClampNeg v_first v_second).2.2.2) from by unfold feedG; (repeat' split) <;> (try dsimp only) <;> first | contradiction | exact ⟨rfl, by omega, by omega, by omega, fun h => absurd kkm1 h⟩ | exact ⟨rfl, by omega, by omega, by omega, fun _ => ⟨by first | rfl | exact vv_a2 | exact vv_b2 | exact vv_b3 | exact vv_c2 | exact vv_d1, by first | rfl | exact vv_a2 | exact vv_b2 | exact vv_b3 | exact vv_c2 | exact vv_d1⟩⟩) rfl (hP.sub [0, 1, 2, 3] rfl) (hD.sub [0, 1, 2, 3] (by decide +kernel) rfl) hS dX6_feedStatement_20

theorem in_p_statement_X6 : ∀ w ∈ wsX60, w ∈ wsX6_statement := tl_X6_statement_X6
set_option maxHeartbeats 8000000 in
set_option maxRecDepth 100000 in
theorem p_statement {l : Launch} {D : va_G} {cI cZ cB : ClassId} {sz : Nat} {h a_tokens a_kinds a_firsts a_seconds ta_kinds ta_places ta_values : Nat} {v_size v_next v_first v_second tv_size tv_textLength : Int32} {tf_kinds tf_values : Nat → Int32}  (htv_size0 : 0 ≤ tv_size.toInt) (htv_size1 : tv_size.toInt ≤ 97) (hn0 : 0 ≤ v_next.toInt) (hn1 : v_next.toInt ≤ 400) : Met l yX6_statement wsX6_statement ({ frames := 4, cells := 0, slots := 0, locals := 83 }) (RW D cI cZ cB [.ref h] sz [(h, .inr (6, [.ref a_tokens, .ref a_kinds, .ref a_firsts, .ref a_seconds, .int v_size, .int v_next, .int v_first, .int v_second])), (a_tokens, .inr (9, [.ref ta_kinds, .ref ta_places, .ref ta_values, .int tv_size, .int tv_textLength])), (ta_kinds, .inl (cI, 97, .inl tf_kinds)), (ta_values, .inl (cI, 97, .inl tf_values))]) (va_Qi (fun (r : Int32) (u : Int32 × Int32 × Int32) => r = (stmF (kC tv_size tf_kinds) (kC tv_size tf_values) v_next.toNatClampNeg).1 ∧ u.1.toNatClampNeg = (stmF (kC tv_size tf_kinds) (kC tv_size tf_values) v_next.toNatClampNeg).2.1 ∧ v_next.toInt ≤ u.1.toInt ∧ u.1.toInt ≤ v_next.toInt + 6 ∧ (r.toInt ≠ -1 → u.2.1 = (stmF (kC tv_size tf_kinds) (kC tv_size tf_values) v_next.toNatClampNeg).2.2.1 ∧ u.2.2 = (stmF (kC tv_size tf_kinds) (kC tv_size tf_values) v_next.toNatClampNeg).2.2.2)) (BW D [(h, .inr (6, [.ref a_tokens, .ref a_kinds, .ref a_firsts, .ref a_seconds, .int v_size, .int v_next, .int v_first, .int v_second])), (a_tokens, .inr (9, [.ref ta_kinds, .ref ta_places, .ref ta_values, .int tv_size, .int tv_textLength])), (ta_kinds, .inl (cI, 97, .inl tf_kinds)), (ta_values, .inl (cI, 97, .inl tf_values))] sz (fun u : Int32 × Int32 × Int32 => [(h, .inr (6, [.ref a_tokens, .ref a_kinds, .ref a_firsts, .ref a_seconds, .int v_size, .int u.1, .int u.2.1, .int u.2.2])), (a_tokens, .inr (9, [.ref ta_kinds, .ref ta_places, .ref ta_values, .int tv_size, .int tv_textLength])), (ta_kinds, .inl (cI, 97, .inl tf_kinds)), (ta_values, .inl (cI, 97, .inl tf_values))])) (va_A [(h, .inr (6, [.ref a_tokens, .ref a_kinds, .ref a_firsts, .ref a_seconds, .int v_size, .int v_next, .int v_first, .int v_second])), (a_tokens, .inr (9, [.ref ta_kinds, .ref ta_places, .ref ta_values, .int tv_size, .int tv_textLength])), (ta_kinds, .inl (cI, 97, .inl tf_kinds)), (ta_values, .inl (cI, 97, .inl tf_values))] sz)) 0 (0) (va_A [(h, .inr (6, [.ref a_tokens, .ref a_kinds, .ref a_firsts, .ref a_seconds, .int v_size, .int v_next, .int v_first, .int v_second])), (a_tokens, .inr (9, [.ref ta_kinds, .ref ta_places, .ref ta_values, .int tv_size, .int tv_textLength])), (ta_kinds, .inl (cI, 97, .inl tf_kinds)), (ta_values, .inl (cI, 97, .inl tf_values))] sz) := by
  refine rw_ret (cc := cX6_statement) (maxL := 2) (ty := .int) (own := RX6) (by decide) rfl rfl (Nat.le_of_ble_eq_true rfl) ?_
  intro p e s m args below meth c Q A S hin hret hP hK hD hA hS ls hl
  obtain ⟨hx, hb, hml, hown, hts⟩ := id S
  have hl : lv_has ls 2 [(0, .ref h)] := hl
  have kkm1 : (-1 : Int32).toInt = -1 := by decide
  have kk0 : (0 : Int32).toInt = 0 := by decide
  have kk2 : (2 : Int32).toInt = 2 := by decide
  have kk4 : (4 : Int32).toInt = 4 := by decide
  have kk8 : (8 : Int32).toInt = 8 := by decide
  have lk0 := hts (.fieldLink RX6 50 "AbbeyHours$RuleReader" "first" "I") (mc_X6_statement_r1 _ (List.mem_of_getElem? (i := 0) rfl))
  have lk1 := hts (.fieldLink RX6 53 "AbbeyHours$RuleReader" "second" "I") (mc_X6_statement_r1 _ (List.mem_of_getElem? (i := 1) rfl))
  refine lv_aload_n hx hb dX6_statement_0 rfl (lv_at hl 0 rfl) ?_
  refine lv_iconst (v := 0) hx hb dX6_statement_1 (by decide) ?_
  refine va_put (D := D) (ci := 6) (v := .int 0) (ty := .int) (C := RX6) (T := TX6) (N := 8) hx hb hts in_p_statement_X6 tyX6 tyX6_ok nmX6 hown hK.1 hP hD hS 0 rfl rfl 6 (by decide) lk0 (fun _ h9 => h9) rfl (by decide +kernel) rfl rfl (Nat.le_of_ble_eq_true rfl) dX6_statement_2 (fun H locs hP hD hS => ?_)
  have hP : va_P D vwCl [(h, .inr (6, [.ref a_tokens, .ref a_kinds, .ref a_firsts, .ref a_seconds, .int v_size, .int v_next, .int 0, .int v_second])), (a_tokens, .inr (9, [.ref ta_kinds, .ref ta_places, .ref ta_values, .int tv_size, .int tv_textLength])), (ta_kinds, .inl (cI, 97, .inl tf_kinds)), (ta_values, .inl (cI, 97, .inl tf_values))] H := hP
  have hD := asD hP hD
  refine lv_aload_n hx hb dX6_statement_5 rfl (lv_at hl 0 rfl) ?_
  refine lv_iconst (v := 0) hx hb dX6_statement_6 (by decide) ?_
  refine va_put (D := D) (ci := 6) (v := .int 0) (ty := .int) (C := RX6) (T := TX6) (N := 8) hx hb hts in_p_statement_X6 tyX6 tyX6_ok nmX6 hown hK.1 hP hD hS 0 rfl rfl 7 (by decide) lk1 (fun _ h9 => h9) rfl (by decide +kernel) rfl rfl (Nat.le_of_ble_eq_true rfl) dX6_statement_7 (fun H locs hP hD hS => ?_)
  have hP : va_P D vwCl [(h, .inr (6, [.ref a_tokens, .ref a_kinds, .ref a_firsts, .ref a_seconds, .int v_size, .int v_next, .int 0, .int 0])), (a_tokens, .inr (9, [.ref ta_kinds, .ref ta_places, .ref ta_values, .int tv_size, .int tv_textLength])), (ta_kinds, .inl (cI, 97, .inl tf_kinds)), (ta_values, .inl (cI, 97, .inl tf_values))] H := hP
  have hD := asD hP hD
  refine lv_iconst (v := (-1)) hx hb dX6_statement_10 (by decide) ?_
  refine lv_istore_n (lv' := [(1, .int (-1)), (0, .ref h)]) hx hb dX6_statement_11 rfl hl (by decide) rfl (fun ls hl => ?_)
  refine lv_aload_n hx hb dX6_statement_12 rfl (lv_at hl 1 rfl) ?_
  refine lv_iconst (v := 4) hx hb dX6_statement_13 (by decide) ?_
  have hPc := hP.sub (ws' := [(h, .inr (6, [.ref a_tokens, .ref a_kinds, .ref a_firsts, .ref a_seconds, .int v_size, .int v_next, .int 0, .int 0])), (a_tokens, .inr (9, [.ref ta_kinds, .ref ta_places, .ref ta_values, .int tv_size, .int tv_textLength])), (ta_kinds, .inl (cI, 97, .inl tf_kinds))]) [0, 1, 2] rfl
  refine rwV (As := [.int 4]) (rest := []) (wc := [(h, .inr (6, [.ref a_tokens, .ref a_kinds, .ref a_firsts, .ref a_seconds, .int v_size, .int v_next, .int 0, .int 0])), (a_tokens, .inr (9, [.ref ta_kinds, .ref ta_places, .ref ta_values, .int tv_size, .int tv_textLength])), (ta_kinds, .inl (cI, 97, .inl tf_kinds))]) (wr := [(ta_values, .inl (cI, 97, .inl tf_values))]) S (p_accept  (by omega) (by omega) (by omega) (by omega)) (cwV 1 hts gX6_statement_X6_accept rfl rfl rfl ⟨rfl, hd_X6_accept⟩ ⟨Nat.le_of_ble_eq_true rfl, Nat.le_of_ble_eq_true rfl⟩) hK hP hD hS hA [0, 1, 2] [3] rfl rfl (by decide +kernel) (by decide +kernel) (by decide +kernel) (va_recv hK.1 hPc (ci := 6) (q0 := 0) rfl rfl) rfl hl.1 rfl (Nat.le_of_ble_eq_true rfl) dX6_statement_14 ⟨Nat.le_of_ble_eq_true rfl, Nat.le_of_ble_eq_true rfl⟩ (fun r_a u_a H locs hw_a hP hD hS => ?_)
  obtain ⟨n1_a, rfl⟩ : ∃ z, z = u_a := ⟨_, rfl⟩
  have hw_a : ((r_a.toInt = 1 ∧ kC tv_size tf_kinds v_next.toNatClampNeg = (4 : Int32) ∧ n1_a.toInt = v_next.toInt + 1) ∨ (r_a.toInt = 0 ∧ ¬ kC tv_size tf_kinds v_next.toNatClampNeg = (4 : Int32) ∧ n1_a = v_next)) := hw_a
  have hP : va_P D vwCl [(ta_values, .inl (cI, 97, .inl tf_values)), (h, .inr (6, [.ref a_tokens, .ref a_kinds, .ref a_firsts, .ref a_seconds, .int v_size, .int n1_a, .int 0, .int 0])), (a_tokens, .inr (9, [.ref ta_kinds, .ref ta_places, .ref ta_values, .int tv_size, .int tv_textLength])), (ta_kinds, .inl (cI, 97, .inl tf_kinds))] H := hP
  have hD := asD hP hD
  have z_a := acc01 hw_a
  refine lv_if_eq (tgt := 28) hx hb dX6_statement_17 (by decide) (fun c_1 => ?_) (fun c_1 => ?_)
  · have tc_1 := t_eq c_1
    have k_a := acc0 hw_a (by omega)
    have x_a : n1_a.toNatClampNeg = v_next.toNatClampNeg := by have z := ixs k_a.2; omega
    have kn_a := k_a.1
    have kt_a := k_a.2
    refine lv_aload_n hx hb dX6_statement_28 rfl (lv_at hl 1 rfl) ?_
    refine lv_bipush (v := 8) hx hb dX6_statement_29 (by decide) ?_
    have hPc := hP.sub (ws' := [(h, .inr (6, [.ref a_tokens, .ref a_kinds, .ref a_firsts, .ref a_seconds, .int v_size, .int n1_a, .int 0, .int 0])), (a_tokens, .inr (9, [.ref ta_kinds, .ref ta_places, .ref ta_values, .int tv_size, .int tv_textLength])), (ta_kinds, .inl (cI, 97, .inl tf_kinds))]) [1, 2, 3] rfl
    refine rwV (As := [.int 8]) (rest := []) (wc := [(h, .inr (6, [.ref a_tokens, .ref a_kinds, .ref a_firsts, .ref a_seconds, .int v_size, .int n1_a, .int 0, .int 0])), (a_tokens, .inr (9, [.ref ta_kinds, .ref ta_places, .ref ta_values, .int tv_size, .int tv_textLength])), (ta_kinds, .inl (cI, 97, .inl tf_kinds))]) (wr := [(ta_values, .inl (cI, 97, .inl tf_values))]) S (p_accept  (by omega) (by omega) (by omega) (by omega)) (cwV 1 hts gX6_statement_X6_accept rfl rfl rfl ⟨rfl, hd_X6_accept⟩ ⟨Nat.le_of_ble_eq_true rfl, Nat.le_of_ble_eq_true rfl⟩) hK hP hD hS hA [1, 2, 3] [0] rfl rfl (by decide +kernel) (by decide +kernel) (by decide +kernel) (va_recv hK.1 hPc (ci := 6) (q0 := 0) rfl rfl) rfl hl.1 rfl (Nat.le_of_ble_eq_true rfl) dX6_statement_31 ⟨Nat.le_of_ble_eq_true rfl, Nat.le_of_ble_eq_true rfl⟩ (fun r_b u_b H locs hw_b hP hD hS => ?_)
    obtain ⟨n1_b, rfl⟩ : ∃ z, z = u_b := ⟨_, rfl⟩
    have hw_b : ((r_b.toInt = 1 ∧ kC tv_size tf_kinds n1_a.toNatClampNeg = (8 : Int32) ∧ n1_b.toInt = n1_a.toInt + 1) ∨ (r_b.toInt = 0 ∧ ¬ kC tv_size tf_kinds n1_a.toNatClampNeg = (8 : Int32) ∧ n1_b = n1_a)) := hw_b
    have hP : va_P D vwCl [(ta_values, .inl (cI, 97, .inl tf_values)), (h, .inr (6, [.ref a_tokens, .ref a_kinds, .ref a_firsts, .ref a_seconds, .int v_size, .int n1_b, .int 0, .int 0])), (a_tokens, .inr (9, [.ref ta_kinds, .ref ta_places, .ref ta_values, .int tv_size, .int tv_textLength])), (ta_kinds, .inl (cI, 97, .inl tf_kinds))] H := hP
    have hD := asD hP hD
    have z_b := acc01 hw_b
    refine lv_if_eq (tgt := 42) hx hb dX6_statement_34 (by decide) (fun c_2 => ?_) (fun c_2 => ?_)
    · have tc_2 := t_eq c_2
      have k_b := acc0 hw_b (by omega)
      rw [x_a] at k_b
      have x_b : n1_b.toNatClampNeg = v_next.toNatClampNeg := by have z := ixs k_b.2; omega
      have kn_b := k_b.1
      have kt_b := k_b.2
      have hh : headG (kC tv_size tf_kinds) (kC tv_size tf_values) v_next.toNatClampNeg = (-1, v_next.toNatClampNeg, 0, 0) := by unfold headG; rw [if_neg kn_a, if_neg kn_b]
      refine lv_iload_n hx hb dX6_statement_42 rfl (lv_at hl 0 rfl) ?_
      refine lv_iconst (v := (-1)) hx hb dX6_statement_43 (by decide) ?_
      refine lv_icmp_eq (tgt := 59) hx hb dX6_statement_44 (by decide) (fun cm => ?_) (fun cm => ?_)
      · have tcm := t_eq cm
        refine lv_iconst (v := (-1)) hx hb dX6_statement_59 (by decide) ?_
        exact hret (-1) (n1_b, 0, 0) _ _ _ _ (show (-1 : Int32) = (stmF (kC tv_size tf_kinds) (kC tv_size tf_values) v_next.toNatClampNeg).1 ∧ n1_b.toNatClampNeg = (stmF (kC tv_size tf_kinds) (kC tv_size tf_values) v_next.toNatClampNeg).2.1 ∧ v_next.toInt ≤ n1_b.toInt ∧ n1_b.toInt ≤ v_next.toInt + 6 ∧ ((-1 : Int32).toInt ≠ -1 → (0 : Int32) = (stmF (kC tv_size tf_kinds) (kC tv_size tf_values) v_next.toNatClampNeg).2.2.1 ∧ (0 : Int32) = (stmF (kC tv_size tf_kinds) (kC tv_size tf_values) v_next.toNatClampNeg).2.2.2) from by unfold stmF; first | (rw [hh, if_pos rfl]; exact ⟨rfl, x_b, by omega, by omega, fun h => absurd kkm1 h⟩) | (rw [if_pos (hG.1.symm.trans cm)]; exact ⟨cm.symm.trans hG.1, hG.2.1, by omega, by omega, fun h => absurd kkm1 h⟩) | (rw [if_neg (fun z => cm (hG.1.trans z)), if_neg k_s.1]; exact ⟨rfl, x_s, by omega, by omega, fun h => absurd kkm1 h⟩) | (rw [if_neg (fun z => cm (hG.1.trans z)), if_pos k_s.1]; exact ⟨hG.1, x_s, by omega, by omega, fun h => hG.2.2.2.2 h⟩)) rfl (hP.sub [1, 2, 3, 0] rfl) (hD.sub [1, 2, 3, 0] (by decide +kernel) rfl) hS dX6_statement_60
      · exact absurd cm (by decide)
    · have tc_2 := t_neq c_2
      have k_b := acc1 hw_b (by omega)
      rw [x_a] at k_b
      have x_b : n1_b.toNatClampNeg = v_next.toNatClampNeg + 1 := by have z := ix1 k_b.2 (by omega); omega
      have kn_b := k_b.1
      have kt_b := k_b.2
      refine lv_aload_n hx hb dX6_statement_37 rfl (lv_at hl 1 rfl) ?_
      have hPc := hP.sub (ws' := [(h, .inr (6, [.ref a_tokens, .ref a_kinds, .ref a_firsts, .ref a_seconds, .int v_size, .int n1_b, .int 0, .int 0])), (a_tokens, .inr (9, [.ref ta_kinds, .ref ta_places, .ref ta_values, .int tv_size, .int tv_textLength])), (ta_kinds, .inl (cI, 97, .inl tf_kinds)), (ta_values, .inl (cI, 97, .inl tf_values))]) [1, 2, 3, 0] rfl
      refine rwV (As := []) (rest := []) (wc := [(h, .inr (6, [.ref a_tokens, .ref a_kinds, .ref a_firsts, .ref a_seconds, .int v_size, .int n1_b, .int 0, .int 0])), (a_tokens, .inr (9, [.ref ta_kinds, .ref ta_places, .ref ta_values, .int tv_size, .int tv_textLength])), (ta_kinds, .inl (cI, 97, .inl tf_kinds)), (ta_values, .inl (cI, 97, .inl tf_values))]) (wr := []) S (p_feedSt  (by omega) (by omega) (by omega) (by omega)) (cwV 0 hts gX6_statement_X6_feedStatement rfl rfl rfl ⟨rfl, hd_X6_feedStatement⟩ ⟨Nat.le_of_ble_eq_true rfl, Nat.le_of_ble_eq_true rfl⟩) hK hP hD hS hA [1, 2, 3, 0] [] rfl rfl (by decide +kernel) (by decide +kernel) (by decide +kernel) (va_recv hK.1 hPc (ci := 6) (q0 := 0) rfl rfl) rfl hl.1 rfl (Nat.le_of_ble_eq_true rfl) dX6_statement_38 ⟨Nat.le_of_ble_eq_true rfl, Nat.le_of_ble_eq_true rfl⟩ (fun r_g u_g H locs hw_g hP hD hS => ?_)
      obtain ⟨n1_g, n2_g, n3_g⟩ := u_g
      have hw_g : r_g = (feedG (kC tv_size tf_kinds) (kC tv_size tf_values) n1_b.toNatClampNeg (0 : Int32) (0 : Int32)).1 ∧ n1_g.toNatClampNeg = (feedG (kC tv_size tf_kinds) (kC tv_size tf_values) n1_b.toNatClampNeg (0 : Int32) (0 : Int32)).2.1 ∧ n1_b.toInt ≤ n1_g.toInt ∧ n1_g.toInt ≤ n1_b.toInt + 4 ∧ (r_g.toInt ≠ -1 → n2_g = (feedG (kC tv_size tf_kinds) (kC tv_size tf_values) n1_b.toNatClampNeg (0 : Int32) (0 : Int32)).2.2.1 ∧ n3_g = (feedG (kC tv_size tf_kinds) (kC tv_size tf_values) n1_b.toNatClampNeg (0 : Int32) (0 : Int32)).2.2.2) := hw_g
      have hP : va_P D vwCl [(h, .inr (6, [.ref a_tokens, .ref a_kinds, .ref a_firsts, .ref a_seconds, .int v_size, .int n1_g, .int n2_g, .int n3_g])), (a_tokens, .inr (9, [.ref ta_kinds, .ref ta_places, .ref ta_values, .int tv_size, .int tv_textLength])), (ta_kinds, .inl (cI, 97, .inl tf_kinds)), (ta_values, .inl (cI, 97, .inl tf_values))] H := hP
      have hD := asD hP hD
      rw [x_b] at hw_g
      have hh : headG (kC tv_size tf_kinds) (kC tv_size tf_values) v_next.toNatClampNeg = feedG (kC tv_size tf_kinds) (kC tv_size tf_values) (v_next.toNatClampNeg + 1) 0 0 := by unfold headG; rw [if_neg kn_a, if_pos kn_b]
      have hG := hw_g
      rw [← hh] at hG
      have tG1 := hG.2.2.1
      have tG2 := hG.2.2.2.1
      refine lv_istore_n (lv' := [(1, .int r_g), (0, .ref h)]) hx hb dX6_statement_41 rfl hl (by decide) rfl (fun ls hl => ?_)
      refine lv_iload_n hx hb dX6_statement_42 rfl (lv_at hl 0 rfl) ?_
      refine lv_iconst (v := (-1)) hx hb dX6_statement_43 (by decide) ?_
      refine lv_icmp_eq (tgt := 59) hx hb dX6_statement_44 (by decide) (fun cm => ?_) (fun cm => ?_)
      · have tcm := t_eq cm
        refine lv_iconst (v := (-1)) hx hb dX6_statement_59 (by decide) ?_
        exact hret (-1) (n1_g, n2_g, n3_g) _ _ _ _ (show (-1 : Int32) = (stmF (kC tv_size tf_kinds) (kC tv_size tf_values) v_next.toNatClampNeg).1 ∧ n1_g.toNatClampNeg = (stmF (kC tv_size tf_kinds) (kC tv_size tf_values) v_next.toNatClampNeg).2.1 ∧ v_next.toInt ≤ n1_g.toInt ∧ n1_g.toInt ≤ v_next.toInt + 6 ∧ ((-1 : Int32).toInt ≠ -1 → n2_g = (stmF (kC tv_size tf_kinds) (kC tv_size tf_values) v_next.toNatClampNeg).2.2.1 ∧ n3_g = (stmF (kC tv_size tf_kinds) (kC tv_size tf_values) v_next.toNatClampNeg).2.2.2) from by unfold stmF; first | (rw [hh, if_pos rfl]; exact ⟨rfl, x_b, by omega, by omega, fun h => absurd kkm1 h⟩) | (rw [if_pos (hG.1.symm.trans cm)]; exact ⟨cm.symm.trans hG.1, hG.2.1, by omega, by omega, fun h => absurd kkm1 h⟩) | (rw [if_neg (fun z => cm (hG.1.trans z)), if_neg k_s.1]; exact ⟨rfl, x_s, by omega, by omega, fun h => absurd kkm1 h⟩) | (rw [if_neg (fun z => cm (hG.1.trans z)), if_pos k_s.1]; exact ⟨hG.1, x_s, by omega, by omega, fun h => hG.2.2.2.2 h⟩)) rfl (hP.sub [0, 1, 2, 3] rfl) (hD.sub [0, 1, 2, 3] (by decide +kernel) rfl) hS dX6_statement_60
      · have tcm := t_neq cm
        refine lv_aload_n hx hb dX6_statement_47 rfl (lv_at hl 1 rfl) ?_
        refine lv_iconst (v := 2) hx hb dX6_statement_48 (by decide) ?_
        have hPc := hP.sub (ws' := [(h, .inr (6, [.ref a_tokens, .ref a_kinds, .ref a_firsts, .ref a_seconds, .int v_size, .int n1_g, .int n2_g, .int n3_g])), (a_tokens, .inr (9, [.ref ta_kinds, .ref ta_places, .ref ta_values, .int tv_size, .int tv_textLength])), (ta_kinds, .inl (cI, 97, .inl tf_kinds))]) [0, 1, 2] rfl
        refine rwV (As := [.int 2]) (rest := []) (wc := [(h, .inr (6, [.ref a_tokens, .ref a_kinds, .ref a_firsts, .ref a_seconds, .int v_size, .int n1_g, .int n2_g, .int n3_g])), (a_tokens, .inr (9, [.ref ta_kinds, .ref ta_places, .ref ta_values, .int tv_size, .int tv_textLength])), (ta_kinds, .inl (cI, 97, .inl tf_kinds))]) (wr := [(ta_values, .inl (cI, 97, .inl tf_values))]) S (p_accept  (by omega) (by omega) (by omega) (by omega)) (cwV 1 hts gX6_statement_X6_accept rfl rfl rfl ⟨rfl, hd_X6_accept⟩ ⟨Nat.le_of_ble_eq_true rfl, Nat.le_of_ble_eq_true rfl⟩) hK hP hD hS hA [0, 1, 2] [3] rfl rfl (by decide +kernel) (by decide +kernel) (by decide +kernel) (va_recv hK.1 hPc (ci := 6) (q0 := 0) rfl rfl) rfl hl.1 rfl (Nat.le_of_ble_eq_true rfl) dX6_statement_49 ⟨Nat.le_of_ble_eq_true rfl, Nat.le_of_ble_eq_true rfl⟩ (fun r_s u_s H locs hw_s hP hD hS => ?_)
        obtain ⟨n1_s, rfl⟩ : ∃ z, z = u_s := ⟨_, rfl⟩
        have hw_s : ((r_s.toInt = 1 ∧ kC tv_size tf_kinds n1_g.toNatClampNeg = (2 : Int32) ∧ n1_s.toInt = n1_g.toInt + 1) ∨ (r_s.toInt = 0 ∧ ¬ kC tv_size tf_kinds n1_g.toNatClampNeg = (2 : Int32) ∧ n1_s = n1_g)) := hw_s
        have hP : va_P D vwCl [(ta_values, .inl (cI, 97, .inl tf_values)), (h, .inr (6, [.ref a_tokens, .ref a_kinds, .ref a_firsts, .ref a_seconds, .int v_size, .int n1_s, .int n2_g, .int n3_g])), (a_tokens, .inr (9, [.ref ta_kinds, .ref ta_places, .ref ta_values, .int tv_size, .int tv_textLength])), (ta_kinds, .inl (cI, 97, .inl tf_kinds))] H := hP
        have hD := asD hP hD
        have z_s := acc01 hw_s
        refine lv_if_eq (tgt := 59) hx hb dX6_statement_52 (by decide) (fun c_5 => ?_) (fun c_5 => ?_)
        · have tc_5 := t_eq c_5
          have k_s := acc0 hw_s (by omega)
          have x_s := ixs k_s.2
          have kt_s := k_s.2
          rw [hG.2.1] at k_s x_s
          refine lv_iconst (v := (-1)) hx hb dX6_statement_59 (by decide) ?_
          exact hret (-1) (n1_s, n2_g, n3_g) _ _ _ _ (show (-1 : Int32) = (stmF (kC tv_size tf_kinds) (kC tv_size tf_values) v_next.toNatClampNeg).1 ∧ n1_s.toNatClampNeg = (stmF (kC tv_size tf_kinds) (kC tv_size tf_values) v_next.toNatClampNeg).2.1 ∧ v_next.toInt ≤ n1_s.toInt ∧ n1_s.toInt ≤ v_next.toInt + 6 ∧ ((-1 : Int32).toInt ≠ -1 → n2_g = (stmF (kC tv_size tf_kinds) (kC tv_size tf_values) v_next.toNatClampNeg).2.2.1 ∧ n3_g = (stmF (kC tv_size tf_kinds) (kC tv_size tf_values) v_next.toNatClampNeg).2.2.2) from by unfold stmF; first | (rw [hh, if_pos rfl]; exact ⟨rfl, x_b, by omega, by omega, fun h => absurd kkm1 h⟩) | (rw [if_pos (hG.1.symm.trans cm)]; exact ⟨cm.symm.trans hG.1, hG.2.1, by omega, by omega, fun h => absurd kkm1 h⟩) | (rw [if_neg (fun z => cm (hG.1.trans z)), if_neg k_s.1]; exact ⟨rfl, x_s, by omega, by omega, fun h => absurd kkm1 h⟩) | (rw [if_neg (fun z => cm (hG.1.trans z)), if_pos k_s.1]; exact ⟨hG.1, x_s, by omega, by omega, fun h => hG.2.2.2.2 h⟩)) rfl (hP.sub [1, 2, 3, 0] rfl) (hD.sub [1, 2, 3, 0] (by decide +kernel) rfl) hS dX6_statement_60
        · have tc_5 := t_neq c_5
          have k_s := acc1 hw_s (by omega)
          have x_s := ix1 k_s.2 (by omega)
          have kt_s := k_s.2
          rw [hG.2.1] at k_s x_s
          refine lv_iload_n hx hb dX6_statement_55 rfl (lv_at hl 0 rfl) ?_
          refine lv_goto (tgt := 60) hx hb dX6_statement_56 (by decide) ?_
          exact hret r_g (n1_s, n2_g, n3_g) _ _ _ _ (show r_g = (stmF (kC tv_size tf_kinds) (kC tv_size tf_values) v_next.toNatClampNeg).1 ∧ n1_s.toNatClampNeg = (stmF (kC tv_size tf_kinds) (kC tv_size tf_values) v_next.toNatClampNeg).2.1 ∧ v_next.toInt ≤ n1_s.toInt ∧ n1_s.toInt ≤ v_next.toInt + 6 ∧ (r_g.toInt ≠ -1 → n2_g = (stmF (kC tv_size tf_kinds) (kC tv_size tf_values) v_next.toNatClampNeg).2.2.1 ∧ n3_g = (stmF (kC tv_size tf_kinds) (kC tv_size tf_values) v_next.toNatClampNeg).2.2.2) from by unfold stmF; first | (rw [hh, if_pos rfl]; exact ⟨rfl, x_b, by omega, by omega, fun h => absurd kkm1 h⟩) | (rw [if_pos (hG.1.symm.trans cm)]; exact ⟨cm.symm.trans hG.1, hG.2.1, by omega, by omega, fun h => absurd kkm1 h⟩) | (rw [if_neg (fun z => cm (hG.1.trans z)), if_neg k_s.1]; exact ⟨rfl, x_s, by omega, by omega, fun h => absurd kkm1 h⟩) | (rw [if_neg (fun z => cm (hG.1.trans z)), if_pos k_s.1]; exact ⟨hG.1, x_s, by omega, by omega, fun h => hG.2.2.2.2 h⟩)) rfl (hP.sub [1, 2, 3, 0] rfl) (hD.sub [1, 2, 3, 0] (by decide +kernel) rfl) hS dX6_statement_60
  · have tc_1 := t_neq c_1
    have k_a := acc1 hw_a (by omega)
    have x_a : n1_a.toNatClampNeg = v_next.toNatClampNeg + 1 := by have z := ix1 k_a.2 (by omega); omega
    have kn_a := k_a.1
    have kt_a := k_a.2
    refine lv_aload_n hx hb dX6_statement_20 rfl (lv_at hl 1 rfl) ?_
    have hPc := hP.sub (ws' := [(h, .inr (6, [.ref a_tokens, .ref a_kinds, .ref a_firsts, .ref a_seconds, .int v_size, .int n1_a, .int 0, .int 0])), (a_tokens, .inr (9, [.ref ta_kinds, .ref ta_places, .ref ta_values, .int tv_size, .int tv_textLength])), (ta_kinds, .inl (cI, 97, .inl tf_kinds)), (ta_values, .inl (cI, 97, .inl tf_values))]) [1, 2, 3, 0] rfl
    refine rwV (As := []) (rest := []) (wc := [(h, .inr (6, [.ref a_tokens, .ref a_kinds, .ref a_firsts, .ref a_seconds, .int v_size, .int n1_a, .int 0, .int 0])), (a_tokens, .inr (9, [.ref ta_kinds, .ref ta_places, .ref ta_values, .int tv_size, .int tv_textLength])), (ta_kinds, .inl (cI, 97, .inl tf_kinds)), (ta_values, .inl (cI, 97, .inl tf_values))]) (wr := []) S (p_fastSt  (by omega) (by omega) (by omega) (by omega)) (cwV 0 hts gX6_statement_X6_fastStatement rfl rfl rfl ⟨rfl, hd_X6_fastStatement⟩ ⟨Nat.le_of_ble_eq_true rfl, Nat.le_of_ble_eq_true rfl⟩) hK hP hD hS hA [1, 2, 3, 0] [] rfl rfl (by decide +kernel) (by decide +kernel) (by decide +kernel) (va_recv hK.1 hPc (ci := 6) (q0 := 0) rfl rfl) rfl hl.1 rfl (Nat.le_of_ble_eq_true rfl) dX6_statement_21 ⟨Nat.le_of_ble_eq_true rfl, Nat.le_of_ble_eq_true rfl⟩ (fun r_f u_f H locs hw_f hP hD hS => ?_)
    obtain ⟨n1_f, n2_f, n3_f⟩ := u_f
    have hw_f : r_f = (fastG (kC tv_size tf_kinds) (kC tv_size tf_values) n1_a.toNatClampNeg (0 : Int32) (0 : Int32)).1 ∧ n1_f.toNatClampNeg = (fastG (kC tv_size tf_kinds) (kC tv_size tf_values) n1_a.toNatClampNeg (0 : Int32) (0 : Int32)).2.1 ∧ n1_a.toInt ≤ n1_f.toInt ∧ n1_f.toInt ≤ n1_a.toInt + 4 ∧ (r_f.toInt ≠ -1 → n2_f = (fastG (kC tv_size tf_kinds) (kC tv_size tf_values) n1_a.toNatClampNeg (0 : Int32) (0 : Int32)).2.2.1 ∧ n3_f = (fastG (kC tv_size tf_kinds) (kC tv_size tf_values) n1_a.toNatClampNeg (0 : Int32) (0 : Int32)).2.2.2) := hw_f
    have hP : va_P D vwCl [(h, .inr (6, [.ref a_tokens, .ref a_kinds, .ref a_firsts, .ref a_seconds, .int v_size, .int n1_f, .int n2_f, .int n3_f])), (a_tokens, .inr (9, [.ref ta_kinds, .ref ta_places, .ref ta_values, .int tv_size, .int tv_textLength])), (ta_kinds, .inl (cI, 97, .inl tf_kinds)), (ta_values, .inl (cI, 97, .inl tf_values))] H := hP
    have hD := asD hP hD
    rw [x_a] at hw_f
    have hh : headG (kC tv_size tf_kinds) (kC tv_size tf_values) v_next.toNatClampNeg = fastG (kC tv_size tf_kinds) (kC tv_size tf_values) (v_next.toNatClampNeg + 1) 0 0 := by unfold headG; rw [if_pos kn_a]
    have hG := hw_f
    rw [← hh] at hG
    have tG1 := hG.2.2.1
    have tG2 := hG.2.2.2.1
    refine lv_istore_n (lv' := [(1, .int r_f), (0, .ref h)]) hx hb dX6_statement_24 rfl hl (by decide) rfl (fun ls hl => ?_)
    refine lv_goto (tgt := 42) hx hb dX6_statement_25 (by decide) ?_
    refine lv_iload_n hx hb dX6_statement_42 rfl (lv_at hl 0 rfl) ?_
    refine lv_iconst (v := (-1)) hx hb dX6_statement_43 (by decide) ?_
    refine lv_icmp_eq (tgt := 59) hx hb dX6_statement_44 (by decide) (fun cm => ?_) (fun cm => ?_)
    · have tcm := t_eq cm
      refine lv_iconst (v := (-1)) hx hb dX6_statement_59 (by decide) ?_
      exact hret (-1) (n1_f, n2_f, n3_f) _ _ _ _ (show (-1 : Int32) = (stmF (kC tv_size tf_kinds) (kC tv_size tf_values) v_next.toNatClampNeg).1 ∧ n1_f.toNatClampNeg = (stmF (kC tv_size tf_kinds) (kC tv_size tf_values) v_next.toNatClampNeg).2.1 ∧ v_next.toInt ≤ n1_f.toInt ∧ n1_f.toInt ≤ v_next.toInt + 6 ∧ ((-1 : Int32).toInt ≠ -1 → n2_f = (stmF (kC tv_size tf_kinds) (kC tv_size tf_values) v_next.toNatClampNeg).2.2.1 ∧ n3_f = (stmF (kC tv_size tf_kinds) (kC tv_size tf_values) v_next.toNatClampNeg).2.2.2) from by unfold stmF; first | (rw [hh, if_pos rfl]; exact ⟨rfl, x_b, by omega, by omega, fun h => absurd kkm1 h⟩) | (rw [if_pos (hG.1.symm.trans cm)]; exact ⟨cm.symm.trans hG.1, hG.2.1, by omega, by omega, fun h => absurd kkm1 h⟩) | (rw [if_neg (fun z => cm (hG.1.trans z)), if_neg k_s.1]; exact ⟨rfl, x_s, by omega, by omega, fun h => absurd kkm1 h⟩) | (rw [if_neg (fun z => cm (hG.1.trans z)), if_pos k_s.1]; exact ⟨hG.1, x_s, by omega, by omega, fun h => hG.2.2.2.2 h⟩)) rfl (hP.sub [0, 1, 2, 3] rfl) (hD.sub [0, 1, 2, 3] (by decide +kernel) rfl) hS dX6_statement_60
    · have tcm := t_neq cm
      refine lv_aload_n hx hb dX6_statement_47 rfl (lv_at hl 1 rfl) ?_
      refine lv_iconst (v := 2) hx hb dX6_statement_48 (by decide) ?_
      have hPc := hP.sub (ws' := [(h, .inr (6, [.ref a_tokens, .ref a_kinds, .ref a_firsts, .ref a_seconds, .int v_size, .int n1_f, .int n2_f, .int n3_f])), (a_tokens, .inr (9, [.ref ta_kinds, .ref ta_places, .ref ta_values, .int tv_size, .int tv_textLength])), (ta_kinds, .inl (cI, 97, .inl tf_kinds))]) [0, 1, 2] rfl
      refine rwV (As := [.int 2]) (rest := []) (wc := [(h, .inr (6, [.ref a_tokens, .ref a_kinds, .ref a_firsts, .ref a_seconds, .int v_size, .int n1_f, .int n2_f, .int n3_f])), (a_tokens, .inr (9, [.ref ta_kinds, .ref ta_places, .ref ta_values, .int tv_size, .int tv_textLength])), (ta_kinds, .inl (cI, 97, .inl tf_kinds))]) (wr := [(ta_values, .inl (cI, 97, .inl tf_values))]) S (p_accept  (by omega) (by omega) (by omega) (by omega)) (cwV 1 hts gX6_statement_X6_accept rfl rfl rfl ⟨rfl, hd_X6_accept⟩ ⟨Nat.le_of_ble_eq_true rfl, Nat.le_of_ble_eq_true rfl⟩) hK hP hD hS hA [0, 1, 2] [3] rfl rfl (by decide +kernel) (by decide +kernel) (by decide +kernel) (va_recv hK.1 hPc (ci := 6) (q0 := 0) rfl rfl) rfl hl.1 rfl (Nat.le_of_ble_eq_true rfl) dX6_statement_49 ⟨Nat.le_of_ble_eq_true rfl, Nat.le_of_ble_eq_true rfl⟩ (fun r_s u_s H locs hw_s hP hD hS => ?_)
      obtain ⟨n1_s, rfl⟩ : ∃ z, z = u_s := ⟨_, rfl⟩
      have hw_s : ((r_s.toInt = 1 ∧ kC tv_size tf_kinds n1_f.toNatClampNeg = (2 : Int32) ∧ n1_s.toInt = n1_f.toInt + 1) ∨ (r_s.toInt = 0 ∧ ¬ kC tv_size tf_kinds n1_f.toNatClampNeg = (2 : Int32) ∧ n1_s = n1_f)) := hw_s
      have hP : va_P D vwCl [(ta_values, .inl (cI, 97, .inl tf_values)), (h, .inr (6, [.ref a_tokens, .ref a_kinds, .ref a_firsts, .ref a_seconds, .int v_size, .int n1_s, .int n2_f, .int n3_f])), (a_tokens, .inr (9, [.ref ta_kinds, .ref ta_places, .ref ta_values, .int tv_size, .int tv_textLength])), (ta_kinds, .inl (cI, 97, .inl tf_kinds))] H := hP
      have hD := asD hP hD
      have z_s := acc01 hw_s
      refine lv_if_eq (tgt := 59) hx hb dX6_statement_52 (by decide) (fun c_7 => ?_) (fun c_7 => ?_)
      · have tc_7 := t_eq c_7
        have k_s := acc0 hw_s (by omega)
        have x_s := ixs k_s.2
        have kt_s := k_s.2
        rw [hG.2.1] at k_s x_s
        refine lv_iconst (v := (-1)) hx hb dX6_statement_59 (by decide) ?_
        exact hret (-1) (n1_s, n2_f, n3_f) _ _ _ _ (show (-1 : Int32) = (stmF (kC tv_size tf_kinds) (kC tv_size tf_values) v_next.toNatClampNeg).1 ∧ n1_s.toNatClampNeg = (stmF (kC tv_size tf_kinds) (kC tv_size tf_values) v_next.toNatClampNeg).2.1 ∧ v_next.toInt ≤ n1_s.toInt ∧ n1_s.toInt ≤ v_next.toInt + 6 ∧ ((-1 : Int32).toInt ≠ -1 → n2_f = (stmF (kC tv_size tf_kinds) (kC tv_size tf_values) v_next.toNatClampNeg).2.2.1 ∧ n3_f = (stmF (kC tv_size tf_kinds) (kC tv_size tf_values) v_next.toNatClampNeg).2.2.2) from by unfold stmF; first | (rw [hh, if_pos rfl]; exact ⟨rfl, x_b, by omega, by omega, fun h => absurd kkm1 h⟩) | (rw [if_pos (hG.1.symm.trans cm)]; exact ⟨cm.symm.trans hG.1, hG.2.1, by omega, by omega, fun h => absurd kkm1 h⟩) | (rw [if_neg (fun z => cm (hG.1.trans z)), if_neg k_s.1]; exact ⟨rfl, x_s, by omega, by omega, fun h => absurd kkm1 h⟩) | (rw [if_neg (fun z => cm (hG.1.trans z)), if_pos k_s.1]; exact ⟨hG.1, x_s, by omega, by omega, fun h => hG.2.2.2.2 h⟩)) rfl (hP.sub [1, 2, 3, 0] rfl) (hD.sub [1, 2, 3, 0] (by decide +kernel) rfl) hS dX6_statement_60
      · have tc_7 := t_neq c_7
        have k_s := acc1 hw_s (by omega)
        have x_s := ix1 k_s.2 (by omega)
        have kt_s := k_s.2
        rw [hG.2.1] at k_s x_s
        refine lv_iload_n hx hb dX6_statement_55 rfl (lv_at hl 0 rfl) ?_
        refine lv_goto (tgt := 60) hx hb dX6_statement_56 (by decide) ?_
        exact hret r_f (n1_s, n2_f, n3_f) _ _ _ _ (show r_f = (stmF (kC tv_size tf_kinds) (kC tv_size tf_values) v_next.toNatClampNeg).1 ∧ n1_s.toNatClampNeg = (stmF (kC tv_size tf_kinds) (kC tv_size tf_values) v_next.toNatClampNeg).2.1 ∧ v_next.toInt ≤ n1_s.toInt ∧ n1_s.toInt ≤ v_next.toInt + 6 ∧ (r_f.toInt ≠ -1 → n2_f = (stmF (kC tv_size tf_kinds) (kC tv_size tf_values) v_next.toNatClampNeg).2.2.1 ∧ n3_f = (stmF (kC tv_size tf_kinds) (kC tv_size tf_values) v_next.toNatClampNeg).2.2.2) from by unfold stmF; first | (rw [hh, if_pos rfl]; exact ⟨rfl, x_b, by omega, by omega, fun h => absurd kkm1 h⟩) | (rw [if_pos (hG.1.symm.trans cm)]; exact ⟨cm.symm.trans hG.1, hG.2.1, by omega, by omega, fun h => absurd kkm1 h⟩) | (rw [if_neg (fun z => cm (hG.1.trans z)), if_neg k_s.1]; exact ⟨rfl, x_s, by omega, by omega, fun h => absurd kkm1 h⟩) | (rw [if_neg (fun z => cm (hG.1.trans z)), if_pos k_s.1]; exact ⟨hG.1, x_s, by omega, by omega, fun h => hG.2.2.2.2 h⟩)) rfl (hP.sub [1, 2, 3, 0] rfl) (hD.sub [1, 2, 3, 0] (by decide +kernel) rfl) hS dX6_statement_60

theorem in_p_read_X6 : ∀ w ∈ wsX60, w ∈ wsX6_read := tl_X6_read_X6
set_option maxHeartbeats 8000000 in
set_option maxRecDepth 100000 in
theorem p_read {l : Launch} {D : va_G} {cI cZ cB : ClassId} {adK adV : Nat → Nat} {sz : Nat} {h a_tokens a_kinds a_firsts a_seconds ta_kinds ta_places ta_values hp pa_bytes : Nat} {v_size v_next v_first v_second tv_size tv_textLength pv_length : Int32} {f_kinds f_firsts f_seconds tf_kinds tf_places tf_values pf_bytes : Nat → Int32} {n : Int32} (hpv_length0 : 0 ≤ pv_length.toInt) (hpv_length1 : pv_length.toInt ≤ 600) (hn0 : 0 ≤ n.toInt) (hn1 : n.toInt ≤ pv_length.toInt) : Met l yX6_read wsX6_read ({ frames := 9, cells := 0, slots := 0, locals := 202 }) (RWs D cI cZ cB adK adV [.ref h, .ref hp, .int n] sz [(h, .inr (6, [.ref a_tokens, .ref a_kinds, .ref a_firsts, .ref a_seconds, .int v_size, .int v_next, .int v_first, .int v_second])), (a_kinds, .inl (cI, 16, .inl f_kinds)), (a_firsts, .inl (cI, 16, .inl f_firsts)), (a_seconds, .inl (cI, 16, .inl f_seconds)), (a_tokens, .inr (9, [.ref ta_kinds, .ref ta_places, .ref ta_values, .int tv_size, .int tv_textLength])), (ta_kinds, .inl (cI, 97, .inl tf_kinds)), (ta_places, .inl (cI, 97, .inl tf_places)), (ta_values, .inl (cI, 97, .inl tf_values)), (hp, .inr (8, [.ref pa_bytes, .int pv_length])), (pa_bytes, .inl (cB, 600, .inl pf_bytes))]) (va_Qi (fun (r : Int32) (u : Int32 × Int32 × Int32 × Int32 × (Nat → Int32) × (Nat → Int32) × (Nat → Int32) × Int32 × Int32 × (Nat → Int32) × (Nat → Int32) × (Nat → Int32)) => 0 ≤ u.1.toInt ∧ u.1.toInt ≤ 16 ∧ 0 ≤ u.2.2.2.2.2.2.2.1.toInt ∧ u.2.2.2.2.2.2.2.1.toInt ≤ 97 ∧ TokA pf_bytes n.toNatClampNeg u.2.2.2.2.2.2.2.1 n u.2.2.2.2.2.2.2.2.2.1 u.2.2.2.2.2.2.2.2.2.2.1 u.2.2.2.2.2.2.2.2.2.2.2 ∧ (∃ i_ f_ : Nat, i_ ≤ 96 ∧ f_ ≤ 96 ∧ OutR (kC u.2.2.2.2.2.2.2.1 u.2.2.2.2.2.2.2.2.2.1) (kC u.2.2.2.2.2.2.2.1 u.2.2.2.2.2.2.2.2.2.2.2) (r.toInt = -1) u.1.toNatClampNeg i_ f_ ∧ (r.toInt ≠ -1 → r = pC u.2.2.2.2.2.2.2.1 n u.2.2.2.2.2.2.2.2.2.2.1 f_)) ∧ Al (RowR (kC u.2.2.2.2.2.2.2.1 u.2.2.2.2.2.2.2.2.2.1) (kC u.2.2.2.2.2.2.2.1 u.2.2.2.2.2.2.2.2.2.2.2) u.2.2.2.2.1 u.2.2.2.2.2.1 u.2.2.2.2.2.2.1) u.1.toInt) (BW D [(h, .inr (6, [.ref a_tokens, .ref a_kinds, .ref a_firsts, .ref a_seconds, .int v_size, .int v_next, .int v_first, .int v_second])), (a_kinds, .inl (cI, 16, .inl f_kinds)), (a_firsts, .inl (cI, 16, .inl f_firsts)), (a_seconds, .inl (cI, 16, .inl f_seconds)), (a_tokens, .inr (9, [.ref ta_kinds, .ref ta_places, .ref ta_values, .int tv_size, .int tv_textLength])), (ta_kinds, .inl (cI, 97, .inl tf_kinds)), (ta_places, .inl (cI, 97, .inl tf_places)), (ta_values, .inl (cI, 97, .inl tf_values)), (hp, .inr (8, [.ref pa_bytes, .int pv_length])), (pa_bytes, .inl (cB, 600, .inl pf_bytes))] sz (fun u : Int32 × Int32 × Int32 × Int32 × (Nat → Int32) × (Nat → Int32) × (Nat → Int32) × Int32 × Int32 × (Nat → Int32) × (Nat → Int32) × (Nat → Int32) => [(h, .inr (6, [.ref a_tokens, .ref a_kinds, .ref a_firsts, .ref a_seconds, .int u.1, .int u.2.1, .int u.2.2.1, .int u.2.2.2.1])), (a_kinds, .inl (cI, 16, .inl u.2.2.2.2.1)), (a_firsts, .inl (cI, 16, .inl u.2.2.2.2.2.1)), (a_seconds, .inl (cI, 16, .inl u.2.2.2.2.2.2.1)), (a_tokens, .inr (9, [.ref ta_kinds, .ref ta_places, .ref ta_values, .int u.2.2.2.2.2.2.2.1, .int u.2.2.2.2.2.2.2.2.1])), (ta_kinds, .inl (cI, 97, .inl u.2.2.2.2.2.2.2.2.2.1)), (ta_places, .inl (cI, 97, .inl u.2.2.2.2.2.2.2.2.2.2.1)), (ta_values, .inl (cI, 97, .inl u.2.2.2.2.2.2.2.2.2.2.2)), (hp, .inr (8, [.ref pa_bytes, .int pv_length])), (pa_bytes, .inl (cB, 600, .inl pf_bytes))])) (va_A [(h, .inr (6, [.ref a_tokens, .ref a_kinds, .ref a_firsts, .ref a_seconds, .int v_size, .int v_next, .int v_first, .int v_second])), (a_kinds, .inl (cI, 16, .inl f_kinds)), (a_firsts, .inl (cI, 16, .inl f_firsts)), (a_seconds, .inl (cI, 16, .inl f_seconds)), (a_tokens, .inr (9, [.ref ta_kinds, .ref ta_places, .ref ta_values, .int tv_size, .int tv_textLength])), (ta_kinds, .inl (cI, 97, .inl tf_kinds)), (ta_places, .inl (cI, 97, .inl tf_places)), (ta_values, .inl (cI, 97, .inl tf_values)), (hp, .inr (8, [.ref pa_bytes, .int pv_length])), (pa_bytes, .inl (cB, 600, .inl pf_bytes))] sz)) 0 (0) (va_A [(h, .inr (6, [.ref a_tokens, .ref a_kinds, .ref a_firsts, .ref a_seconds, .int v_size, .int v_next, .int v_first, .int v_second])), (a_kinds, .inl (cI, 16, .inl f_kinds)), (a_firsts, .inl (cI, 16, .inl f_firsts)), (a_seconds, .inl (cI, 16, .inl f_seconds)), (a_tokens, .inr (9, [.ref ta_kinds, .ref ta_places, .ref ta_values, .int tv_size, .int tv_textLength])), (ta_kinds, .inl (cI, 97, .inl tf_kinds)), (ta_places, .inl (cI, 97, .inl tf_places)), (ta_values, .inl (cI, 97, .inl tf_values)), (hp, .inr (8, [.ref pa_bytes, .int pv_length])), (pa_bytes, .inl (cB, 600, .inl pf_bytes))] sz) := by
  refine rws_ret (cc := cX6_read) (maxL := 4) (ty := .int) (own := RX6) (by decide) rfl rfl (Nat.le_of_ble_eq_true rfl) ?_
  intro p e s m args below meth c Q A S hin hret hP hK hD hA hS hZ ls hl
  obtain ⟨hx, hb, hml, hown, hts⟩ := id S
  have hl : lv_has ls 4 [(0, .ref h), (1, .ref hp), (2, .int n)] := hl
  have kkm1 : (-1 : Int32).toInt = -1 := by decide
  have kk0 : (0 : Int32).toInt = 0 := by decide
  have kk1 : (1 : Int32).toInt = 1 := by decide
  have kk16 : (16 : Int32).toInt = 16 := by decide
  have lk0 := hts (.fieldLink RX6 12 "AbbeyHours$RuleReader" "tokens" "LAbbeyHours$Tokens;") (mc_X6_read_r1 _ (List.mem_of_getElem? (i := 0) rfl))
  have lk1 := hts (.fieldLink RX6 32 "AbbeyHours$RuleReader" "next" "I") (mc_X6_read_r1 _ (List.mem_of_getElem? (i := 1) rfl))
  have lk2 := hts (.fieldLink RX6 36 "AbbeyHours$RuleReader" "size" "I") (mc_X6_read_r1 _ (List.mem_of_getElem? (i := 2) rfl))
  have lk3 := hts (.fieldLink RX6 18 "AbbeyHours$RuleReader" "kinds" "[I") (mc_X6_read_r1 _ (List.mem_of_getElem? (i := 3) rfl))
  have lk4 := hts (.fieldLink RX6 22 "AbbeyHours$RuleReader" "firsts" "[I") (mc_X6_read_r1 _ (List.mem_of_getElem? (i := 4) rfl))
  have lk5 := hts (.fieldLink RX6 50 "AbbeyHours$RuleReader" "first" "I") (mc_X6_read_r1 _ (List.mem_of_getElem? (i := 5) rfl))
  have lk6 := hts (.fieldLink RX6 25 "AbbeyHours$RuleReader" "seconds" "[I") (mc_X6_read_r1 _ (List.mem_of_getElem? (i := 6) rfl))
  have lk7 := hts (.fieldLink RX6 53 "AbbeyHours$RuleReader" "second" "I") (mc_X6_read_r1 _ (List.mem_of_getElem? (i := 7) rfl))
  refine lv_aload_n hx hb dX6_read_0 rfl (lv_at hl 0 rfl) ?_
  refine va_get (D := D) (ci := 6) (v := .ref a_tokens) (C := RX6) (T := TX6) (N := 8) hx hb hts in_p_read_X6 hown hK.1 hP 0 rfl rfl 0 (by decide) lk0 (fun _ h9 => h9) rfl dX6_read_1 ?_
  refine lv_aload_n hx hb dX6_read_4 rfl (lv_at hl 1 rfl) ?_
  refine lv_iload_n hx hb dX6_read_5 rfl (lv_at hl 2 rfl) ?_
  have hPc := hP.sub (ws' := [(a_tokens, .inr (9, [.ref ta_kinds, .ref ta_places, .ref ta_values, .int tv_size, .int tv_textLength])), (ta_kinds, .inl (cI, 97, .inl tf_kinds)), (ta_places, .inl (cI, 97, .inl tf_places)), (ta_values, .inl (cI, 97, .inl tf_values)), (hp, .inr (8, [.ref pa_bytes, .int pv_length])), (pa_bytes, .inl (cB, 600, .inl pf_bytes))]) [4, 5, 6, 7, 8, 9] rfl
  refine rwsVv (As := [.ref hp, .int n]) (rest := []) (wc := [(a_tokens, .inr (9, [.ref ta_kinds, .ref ta_places, .ref ta_values, .int tv_size, .int tv_textLength])), (ta_kinds, .inl (cI, 97, .inl tf_kinds)), (ta_places, .inl (cI, 97, .inl tf_places)), (ta_values, .inl (cI, 97, .inl tf_values)), (hp, .inr (8, [.ref pa_bytes, .int pv_length])), (pa_bytes, .inl (cB, 600, .inl pf_bytes))]) (wr := [(h, .inr (6, [.ref a_tokens, .ref a_kinds, .ref a_firsts, .ref a_seconds, .int v_size, .int v_next, .int v_first, .int v_second])), (a_kinds, .inl (cI, 16, .inl f_kinds)), (a_firsts, .inl (cI, 16, .inl f_firsts)), (a_seconds, .inl (cI, 16, .inl f_seconds))]) S (p_scan  (by omega) (by omega) (by omega) (by omega)) (cwV 2 hts gX6_read_X10_scan rfl rfl rfl ⟨rfl, hd_X10_scan⟩ ⟨Nat.le_of_ble_eq_true rfl, Nat.le_of_ble_eq_true rfl⟩) hK (hZ.kept (fun a h1 h2 => hS.2.1 a h1 h2)) hP hD hS hA [4, 5, 6, 7, 8, 9] [0, 1, 2, 3] rfl rfl (by decide +kernel) (by decide +kernel) (by decide +kernel) (va_recv hK.1 hPc (ci := 9) (q0 := 0) rfl rfl) rfl hl.1 rfl (Nat.le_of_ble_eq_true rfl) dX6_read_6 ⟨Nat.le_of_ble_eq_true rfl, Nat.le_of_ble_eq_true rfl⟩ (fun u_sc H locs hw_sc hP hD hS => ?_)
  obtain ⟨n1_sc, f1_sc, f2_sc, f3_sc, tl1_sc⟩ := u_sc
  have hw_sc : 0 ≤ n1_sc.toInt ∧ n1_sc.toInt ≤ 97 ∧ tl1_sc = n ∧ TokS pf_bytes n.toNatClampNeg f1_sc f2_sc f3_sc n1_sc.toInt ∧ (n1_sc.toInt < 97 → PosR pf_bytes n.toNatClampNeg n1_sc.toInt.toNat n.toNatClampNeg) := hw_sc
  have hP : va_P D vwCl [(h, .inr (6, [.ref a_tokens, .ref a_kinds, .ref a_firsts, .ref a_seconds, .int v_size, .int v_next, .int v_first, .int v_second])), (a_kinds, .inl (cI, 16, .inl f_kinds)), (a_firsts, .inl (cI, 16, .inl f_firsts)), (a_seconds, .inl (cI, 16, .inl f_seconds)), (a_tokens, .inr (9, [.ref ta_kinds, .ref ta_places, .ref ta_values, .int n1_sc, .int tl1_sc])), (ta_kinds, .inl (cI, 97, .inl f1_sc)), (ta_places, .inl (cI, 97, .inl f2_sc)), (ta_values, .inl (cI, 97, .inl f3_sc)), (hp, .inr (8, [.ref pa_bytes, .int pv_length])), (pa_bytes, .inl (cB, 600, .inl pf_bytes))] H := hP
  have hD := asD hP hD
  have hs1 := hw_sc.1
  have hs2 := hw_sc.2.1
  have etl : tl1_sc = n := hw_sc.2.2.1
  have hta : TokA pf_bytes n.toNatClampNeg n1_sc n f1_sc f2_sc f3_sc := TokA.of hw_sc.2.2.2.1 (by omega) (by omega) rfl (by omega) (fun z => by have w := hw_sc.2.2.2.2 z; rw [show n1_sc.toInt.toNat = n1_sc.toNatClampNeg by have := t_cl (x := n1_sc) (by omega); omega] at w; exact w)
  refine lv_aload_n hx hb dX6_read_9 rfl (lv_at hl 0 rfl) ?_
  refine lv_iconst (v := 0) hx hb dX6_read_10 (by decide) ?_
  refine va_put (D := D) (ci := 6) (v := .int 0) (ty := .int) (C := RX6) (T := TX6) (N := 8) hx hb hts in_p_read_X6 tyX6 tyX6_ok nmX6 hown hK.1 hP hD hS 0 rfl rfl 5 (by decide) lk1 (fun _ h9 => h9) rfl (by decide +kernel) rfl rfl (Nat.le_of_ble_eq_true rfl) dX6_read_11 (fun H locs hP hD hS => ?_)
  have hP : va_P D vwCl [(h, .inr (6, [.ref a_tokens, .ref a_kinds, .ref a_firsts, .ref a_seconds, .int v_size, .int 0, .int v_first, .int v_second])), (a_kinds, .inl (cI, 16, .inl f_kinds)), (a_firsts, .inl (cI, 16, .inl f_firsts)), (a_seconds, .inl (cI, 16, .inl f_seconds)), (a_tokens, .inr (9, [.ref ta_kinds, .ref ta_places, .ref ta_values, .int n1_sc, .int tl1_sc])), (ta_kinds, .inl (cI, 97, .inl f1_sc)), (ta_places, .inl (cI, 97, .inl f2_sc)), (ta_values, .inl (cI, 97, .inl f3_sc)), (hp, .inr (8, [.ref pa_bytes, .int pv_length])), (pa_bytes, .inl (cB, 600, .inl pf_bytes))] H := hP
  have hD := asD hP hD
  refine lv_aload_n hx hb dX6_read_14 rfl (lv_at hl 0 rfl) ?_
  refine lv_iconst (v := 0) hx hb dX6_read_15 (by decide) ?_
  refine va_put (D := D) (ci := 6) (v := .int 0) (ty := .int) (C := RX6) (T := TX6) (N := 8) hx hb hts in_p_read_X6 tyX6 tyX6_ok nmX6 hown hK.1 hP hD hS 0 rfl rfl 4 (by decide) lk2 (fun _ h9 => h9) rfl (by decide +kernel) rfl rfl (Nat.le_of_ble_eq_true rfl) dX6_read_16 (fun H locs hP hD hS => ?_)
  have hP : va_P D vwCl [(h, .inr (6, [.ref a_tokens, .ref a_kinds, .ref a_firsts, .ref a_seconds, .int 0, .int 0, .int v_first, .int v_second])), (a_kinds, .inl (cI, 16, .inl f_kinds)), (a_firsts, .inl (cI, 16, .inl f_firsts)), (a_seconds, .inl (cI, 16, .inl f_seconds)), (a_tokens, .inr (9, [.ref ta_kinds, .ref ta_places, .ref ta_values, .int n1_sc, .int tl1_sc])), (ta_kinds, .inl (cI, 97, .inl f1_sc)), (ta_places, .inl (cI, 97, .inl f2_sc)), (ta_values, .inl (cI, 97, .inl f3_sc)), (hp, .inr (8, [.ref pa_bytes, .int pv_length])), (pa_bytes, .inl (cB, 600, .inl pf_bytes))] H := hP
  have hD := asD hP hD
  have loop19 : ∀ (fuel : Nat) (q1 : Int32) (q2 : Int32) (q3 : Int32) (q4 : Int32) (k1 : Nat → Int32) (k2 : Nat → Int32) (k3 : Nat → Int32), 16 - q1.toInt < (fuel : Int) → (0 ≤ q1.toInt) → (q1.toInt ≤ 16) → (0 ≤ q2.toInt) → (q2.toInt ≤ 6 * q1.toInt) → (RdR (kC n1_sc f1_sc) (kC n1_sc f3_sc) q1.toNatClampNeg q2.toNatClampNeg) → (Al (RowR (kC n1_sc f1_sc) (kC n1_sc f3_sc) k1 k2 k3) q1.toInt) → ∀ (H : Heap) (locs : List Loc), va_P D vwCl [(h, .inr (6, [.ref a_tokens, .ref a_kinds, .ref a_firsts, .ref a_seconds, .int q1, .int q2, .int q3, .int q4])), (a_kinds, .inl (cI, 16, .inl k1)), (a_firsts, .inl (cI, 16, .inl k2)), (a_seconds, .inl (cI, 16, .inl k3)), (a_tokens, .inr (9, [.ref ta_kinds, .ref ta_places, .ref ta_values, .int n1_sc, .int tl1_sc])), (ta_kinds, .inl (cI, 97, .inl f1_sc)), (ta_places, .inl (cI, 97, .inl f2_sc)), (ta_values, .inl (cI, 97, .inl f3_sc)), (hp, .inr (8, [.ref pa_bytes, .int pv_length])), (pa_bytes, .inl (cB, 600, .inl pf_bytes))] H → va_D A [(h, .inr (6, [.ref a_tokens, .ref a_kinds, .ref a_firsts, .ref a_seconds, .int q1, .int q2, .int q3, .int q4])), (a_kinds, .inl (cI, 16, .inl k1)), (a_firsts, .inl (cI, 16, .inl k2)), (a_seconds, .inl (cI, 16, .inl k3)), (a_tokens, .inr (9, [.ref ta_kinds, .ref ta_places, .ref ta_values, .int n1_sc, .int tl1_sc])), (ta_kinds, .inl (cI, 97, .inl f1_sc)), (ta_places, .inl (cI, 97, .inl f2_sc)), (ta_values, .inl (cI, 97, .inl f3_sc)), (hp, .inr (8, [.ref pa_bytes, .int pv_length])), (pa_bytes, .inl (cB, 600, .inl pf_bytes))] → va_S A s.heap H locs → ∀ ls : Array Slot, lv_has ls 4 [(0, .ref h), (1, .ref hp), (2, .int n)] → W p l e ({ frames := 9, cells := 0, slots := 0, locals := 202 } : Room) s m args below meth c H locs 0 (0) Q (F0 m 19 ls []) := by
    intro fuel
    induction fuel with
    | zero =>
      intro q1 q2 q3 q4 k1 k2 k3 hmu hq0 hq1 hq2 hq3 hrd hrow H locs hP hD hS ls hl
      exfalso; omega
    | succ fuel ih19 =>
      intro q1 q2 q3 q4 k1 k2 k3 hmu hq0 hq1 hq2 hq3 hrd hrow H locs hP hD hS ls hl
      refine lv_aload_n hx hb dX6_read_19 rfl (lv_at hl 0 rfl) ?_
      refine va_get (D := D) (ci := 6) (v := .int q1) (C := RX6) (T := TX6) (N := 8) hx hb hts in_p_read_X6 hown hK.1 hP 0 rfl rfl 4 (by decide) lk2 (fun _ h9 => h9) rfl dX6_read_20 ?_
      refine lv_bipush (v := 16) hx hb dX6_read_23 (by decide) ?_
      refine lv_icmp_ge (tgt := 113) hx hb dX6_read_25 (by decide) (fun c_1 => ?_) (fun c_1 => ?_)
      · have tc_1 := t_le c_1
        refine lv_aload_n hx hb dX6_read_113 rfl (lv_at hl 0 rfl) ?_
        refine va_get (D := D) (ci := 6) (v := .ref a_tokens) (C := RX6) (T := TX6) (N := 8) hx hb hts in_p_read_X6 hown hK.1 hP 0 rfl rfl 0 (by decide) lk0 (fun _ h9 => h9) rfl dX6_read_114 ?_
        refine lv_aload_n hx hb dX6_read_117 rfl (lv_at hl 0 rfl) ?_
        refine va_get (D := D) (ci := 6) (v := .int q2) (C := RX6) (T := TX6) (N := 8) hx hb hts in_p_read_X6 hown hK.1 hP 0 rfl rfl 5 (by decide) lk1 (fun _ h9 => h9) rfl dX6_read_118 ?_
        have hPc := hP.sub (ws' := [(a_tokens, .inr (9, [.ref ta_kinds, .ref ta_places, .ref ta_values, .int n1_sc, .int tl1_sc])), (ta_kinds, .inl (cI, 97, .inl f1_sc))]) [4, 5] rfl
        refine roV (As := [.int q2]) (rest := []) S (p_kind  (by omega) (by omega) (by omega)) (cwV 1 hts gX6_read_X10_kind rfl rfl rfl ⟨rfl, hd_X10_kind⟩ ⟨Nat.le_of_ble_eq_true rfl, Nat.le_of_ble_eq_true rfl⟩) hK hPc (va_recv hK.1 hPc (ci := 9) (q0 := 0) rfl rfl) rfl hl.1 rfl (Nat.le_of_ble_eq_true rfl) dX6_read_121 ⟨Nat.le_of_ble_eq_true rfl, Nat.le_of_ble_eq_true rfl⟩ (fun r_ke hw_ke => ?_)
        have hw_ke : r_ke = kC n1_sc f1_sc q2.toNatClampNeg := hw_ke
        refine lv_if_ne (tgt := 131) hx hb dX6_read_124 (by decide) (fun ce => ?_) (fun ce => ?_)
        · have tce := t_neq ce
          refine lv_aload_n hx hb dX6_read_131 rfl (lv_at hl 0 rfl) ?_
          refine va_get (D := D) (ci := 6) (v := .ref a_tokens) (C := RX6) (T := TX6) (N := 8) hx hb hts in_p_read_X6 hown hK.1 hP 0 rfl rfl 0 (by decide) lk0 (fun _ h9 => h9) rfl dX6_read_132 ?_
          refine lv_aload_n hx hb dX6_read_135 rfl (lv_at hl 0 rfl) ?_
          refine va_get (D := D) (ci := 6) (v := .int q2) (C := RX6) (T := TX6) (N := 8) hx hb hts in_p_read_X6 hown hK.1 hP 0 rfl rfl 5 (by decide) lk1 (fun _ h9 => h9) rfl dX6_read_136 ?_
          have hPc := hP.sub (ws' := [(a_tokens, .inr (9, [.ref ta_kinds, .ref ta_places, .ref ta_values, .int n1_sc, .int tl1_sc])), (ta_places, .inl (cI, 97, .inl f2_sc))]) [4, 6] rfl
          refine roV (As := [.int q2]) (rest := []) S (p_place  (by omega) (by omega) (by omega)) (cwV 1 hts gX6_read_X10_place rfl rfl rfl ⟨rfl, hd_X10_place⟩ ⟨Nat.le_of_ble_eq_true rfl, Nat.le_of_ble_eq_true rfl⟩) hK hPc (va_recv hK.1 hPc (ci := 9) (q0 := 0) rfl rfl) rfl hl.1 rfl (Nat.le_of_ble_eq_true rfl) dX6_read_139 ⟨Nat.le_of_ble_eq_true rfl, Nat.le_of_ble_eq_true rfl⟩ (fun r_pe hw_pe => ?_)
          have hw_pe : r_pe = pC n1_sc tl1_sc f2_sc q2.toNatClampNeg := hw_pe
          exact hret r_pe (q1, q2, q3, q4, k1, k2, k3, n1_sc, tl1_sc, f1_sc, f2_sc, f3_sc) _ _ _ _ (show 0 ≤ q1.toInt ∧ q1.toInt ≤ 16 ∧ 0 ≤ n1_sc.toInt ∧ n1_sc.toInt ≤ 97 ∧ TokA pf_bytes n.toNatClampNeg n1_sc n f1_sc f2_sc f3_sc ∧ (∃ i_ f_ : Nat, i_ ≤ 96 ∧ f_ ≤ 96 ∧ OutR (kC n1_sc f1_sc) (kC n1_sc f3_sc) (r_pe.toInt = -1) q1.toNatClampNeg i_ f_ ∧ (r_pe.toInt ≠ -1 → r_pe = pC n1_sc n f2_sc f_)) ∧ Al (RowR (kC n1_sc f1_sc) (kC n1_sc f3_sc) k1 k2 k3) q1.toInt from by first | exact ⟨by omega, by omega, by omega, by omega, hta, ⟨q2.toNatClampNeg, 0, by have := t_cl (x := q2) (by omega); omega, by omega, ⟨hrd, by have := t_cl (x := q1) (by omega); omega, Or.inl ⟨by omega, by rw [← hw_ke]; exact ce⟩⟩, fun h => absurd kkm1 h⟩, hrow⟩ | exact ⟨by omega, by omega, by omega, by omega, hta, ⟨q2.toNatClampNeg, q2.toNatClampNeg, by have := t_cl (x := q2) (by omega); omega, by have := t_cl (x := q2) (by omega); omega, ⟨hrd, by have := t_cl (x := q1) (by omega); omega, Or.inr ⟨by have z := (hta q2.toNatClampNeg (by have := t_cl (x := q2) (by omega); omega)).2; rw [hw_pe, etl]; omega, by rw [← hw_ke]; exact ce, Or.inr ⟨by have := t_cl (x := q1) (by omega); omega, rfl⟩⟩⟩, fun _ => by rw [hw_pe, etl]⟩, hrow⟩ | exact absurd ((hw_ke.trans hw_kd.symm).trans ck) ce) rfl (hP.sub [0, 1, 2, 3, 4, 5, 6, 7, 8, 9] rfl) (hD.sub [0, 1, 2, 3, 4, 5, 6, 7, 8, 9] (by decide +kernel) rfl) hS dX6_read_142
        · have tce := t_eq ce
          refine lv_iconst (v := (-1)) hx hb dX6_read_127 (by decide) ?_
          refine lv_goto (tgt := 142) hx hb dX6_read_128 (by decide) ?_
          exact hret (-1) (q1, q2, q3, q4, k1, k2, k3, n1_sc, tl1_sc, f1_sc, f2_sc, f3_sc) _ _ _ _ (show 0 ≤ q1.toInt ∧ q1.toInt ≤ 16 ∧ 0 ≤ n1_sc.toInt ∧ n1_sc.toInt ≤ 97 ∧ TokA pf_bytes n.toNatClampNeg n1_sc n f1_sc f2_sc f3_sc ∧ (∃ i_ f_ : Nat, i_ ≤ 96 ∧ f_ ≤ 96 ∧ OutR (kC n1_sc f1_sc) (kC n1_sc f3_sc) ((-1 : Int32).toInt = -1) q1.toNatClampNeg i_ f_ ∧ ((-1 : Int32).toInt ≠ -1 → (-1 : Int32) = pC n1_sc n f2_sc f_)) ∧ Al (RowR (kC n1_sc f1_sc) (kC n1_sc f3_sc) k1 k2 k3) q1.toInt from by first | exact ⟨by omega, by omega, by omega, by omega, hta, ⟨q2.toNatClampNeg, 0, by have := t_cl (x := q2) (by omega); omega, by omega, ⟨hrd, by have := t_cl (x := q1) (by omega); omega, Or.inl ⟨by omega, by rw [← hw_ke]; exact ce⟩⟩, fun h => absurd kkm1 h⟩, hrow⟩ | exact ⟨by omega, by omega, by omega, by omega, hta, ⟨q2.toNatClampNeg, q2.toNatClampNeg, by have := t_cl (x := q2) (by omega); omega, by have := t_cl (x := q2) (by omega); omega, ⟨hrd, by have := t_cl (x := q1) (by omega); omega, Or.inr ⟨by have z := (hta q2.toNatClampNeg (by have := t_cl (x := q2) (by omega); omega)).2; rw [hw_pe, etl]; omega, by rw [← hw_ke]; exact ce, Or.inr ⟨by have := t_cl (x := q1) (by omega); omega, rfl⟩⟩⟩, fun _ => by rw [hw_pe, etl]⟩, hrow⟩ | exact absurd ((hw_ke.trans hw_kd.symm).trans ck) ce) rfl (hP.sub [0, 1, 2, 3, 4, 5, 6, 7, 8, 9] rfl) (hD.sub [0, 1, 2, 3, 4, 5, 6, 7, 8, 9] (by decide +kernel) rfl) hS dX6_read_142
      · have tc_1 := t_nle c_1
        refine lv_aload_n hx hb dX6_read_28 rfl (lv_at hl 0 rfl) ?_
        refine va_get (D := D) (ci := 6) (v := .ref a_tokens) (C := RX6) (T := TX6) (N := 8) hx hb hts in_p_read_X6 hown hK.1 hP 0 rfl rfl 0 (by decide) lk0 (fun _ h9 => h9) rfl dX6_read_29 ?_
        refine lv_aload_n hx hb dX6_read_32 rfl (lv_at hl 0 rfl) ?_
        refine va_get (D := D) (ci := 6) (v := .int q2) (C := RX6) (T := TX6) (N := 8) hx hb hts in_p_read_X6 hown hK.1 hP 0 rfl rfl 5 (by decide) lk1 (fun _ h9 => h9) rfl dX6_read_33 ?_
        have hPc := hP.sub (ws' := [(a_tokens, .inr (9, [.ref ta_kinds, .ref ta_places, .ref ta_values, .int n1_sc, .int tl1_sc])), (ta_kinds, .inl (cI, 97, .inl f1_sc))]) [4, 5] rfl
        refine roV (As := [.int q2]) (rest := []) S (p_kind  (by omega) (by omega) (by omega)) (cwV 1 hts gX6_read_X10_kind rfl rfl rfl ⟨rfl, hd_X10_kind⟩ ⟨Nat.le_of_ble_eq_true rfl, Nat.le_of_ble_eq_true rfl⟩) hK hPc (va_recv hK.1 hPc (ci := 9) (q0 := 0) rfl rfl) rfl hl.1 rfl (Nat.le_of_ble_eq_true rfl) dX6_read_36 ⟨Nat.le_of_ble_eq_true rfl, Nat.le_of_ble_eq_true rfl⟩ (fun r_kd hw_kd => ?_)
        have hw_kd : r_kd = kC n1_sc f1_sc q2.toNatClampNeg := hw_kd
        refine lv_if_eq (tgt := 113) hx hb dX6_read_39 (by decide) (fun ck => ?_) (fun ck => ?_)
        · have tck := t_eq ck
          refine lv_aload_n hx hb dX6_read_113 rfl (lv_at hl 0 rfl) ?_
          refine va_get (D := D) (ci := 6) (v := .ref a_tokens) (C := RX6) (T := TX6) (N := 8) hx hb hts in_p_read_X6 hown hK.1 hP 0 rfl rfl 0 (by decide) lk0 (fun _ h9 => h9) rfl dX6_read_114 ?_
          refine lv_aload_n hx hb dX6_read_117 rfl (lv_at hl 0 rfl) ?_
          refine va_get (D := D) (ci := 6) (v := .int q2) (C := RX6) (T := TX6) (N := 8) hx hb hts in_p_read_X6 hown hK.1 hP 0 rfl rfl 5 (by decide) lk1 (fun _ h9 => h9) rfl dX6_read_118 ?_
          have hPc := hP.sub (ws' := [(a_tokens, .inr (9, [.ref ta_kinds, .ref ta_places, .ref ta_values, .int n1_sc, .int tl1_sc])), (ta_kinds, .inl (cI, 97, .inl f1_sc))]) [4, 5] rfl
          refine roV (As := [.int q2]) (rest := []) S (p_kind  (by omega) (by omega) (by omega)) (cwV 1 hts gX6_read_X10_kind rfl rfl rfl ⟨rfl, hd_X10_kind⟩ ⟨Nat.le_of_ble_eq_true rfl, Nat.le_of_ble_eq_true rfl⟩) hK hPc (va_recv hK.1 hPc (ci := 9) (q0 := 0) rfl rfl) rfl hl.1 rfl (Nat.le_of_ble_eq_true rfl) dX6_read_121 ⟨Nat.le_of_ble_eq_true rfl, Nat.le_of_ble_eq_true rfl⟩ (fun r_ke hw_ke => ?_)
          have hw_ke : r_ke = kC n1_sc f1_sc q2.toNatClampNeg := hw_ke
          refine lv_if_ne (tgt := 131) hx hb dX6_read_124 (by decide) (fun ce => ?_) (fun ce => ?_)
          · have tce := t_neq ce
            refine lv_aload_n hx hb dX6_read_131 rfl (lv_at hl 0 rfl) ?_
            refine va_get (D := D) (ci := 6) (v := .ref a_tokens) (C := RX6) (T := TX6) (N := 8) hx hb hts in_p_read_X6 hown hK.1 hP 0 rfl rfl 0 (by decide) lk0 (fun _ h9 => h9) rfl dX6_read_132 ?_
            refine lv_aload_n hx hb dX6_read_135 rfl (lv_at hl 0 rfl) ?_
            refine va_get (D := D) (ci := 6) (v := .int q2) (C := RX6) (T := TX6) (N := 8) hx hb hts in_p_read_X6 hown hK.1 hP 0 rfl rfl 5 (by decide) lk1 (fun _ h9 => h9) rfl dX6_read_136 ?_
            have hPc := hP.sub (ws' := [(a_tokens, .inr (9, [.ref ta_kinds, .ref ta_places, .ref ta_values, .int n1_sc, .int tl1_sc])), (ta_places, .inl (cI, 97, .inl f2_sc))]) [4, 6] rfl
            refine roV (As := [.int q2]) (rest := []) S (p_place  (by omega) (by omega) (by omega)) (cwV 1 hts gX6_read_X10_place rfl rfl rfl ⟨rfl, hd_X10_place⟩ ⟨Nat.le_of_ble_eq_true rfl, Nat.le_of_ble_eq_true rfl⟩) hK hPc (va_recv hK.1 hPc (ci := 9) (q0 := 0) rfl rfl) rfl hl.1 rfl (Nat.le_of_ble_eq_true rfl) dX6_read_139 ⟨Nat.le_of_ble_eq_true rfl, Nat.le_of_ble_eq_true rfl⟩ (fun r_pe hw_pe => ?_)
            have hw_pe : r_pe = pC n1_sc tl1_sc f2_sc q2.toNatClampNeg := hw_pe
            exact hret r_pe (q1, q2, q3, q4, k1, k2, k3, n1_sc, tl1_sc, f1_sc, f2_sc, f3_sc) _ _ _ _ (show 0 ≤ q1.toInt ∧ q1.toInt ≤ 16 ∧ 0 ≤ n1_sc.toInt ∧ n1_sc.toInt ≤ 97 ∧ TokA pf_bytes n.toNatClampNeg n1_sc n f1_sc f2_sc f3_sc ∧ (∃ i_ f_ : Nat, i_ ≤ 96 ∧ f_ ≤ 96 ∧ OutR (kC n1_sc f1_sc) (kC n1_sc f3_sc) (r_pe.toInt = -1) q1.toNatClampNeg i_ f_ ∧ (r_pe.toInt ≠ -1 → r_pe = pC n1_sc n f2_sc f_)) ∧ Al (RowR (kC n1_sc f1_sc) (kC n1_sc f3_sc) k1 k2 k3) q1.toInt from by first | exact ⟨by omega, by omega, by omega, by omega, hta, ⟨q2.toNatClampNeg, 0, by have := t_cl (x := q2) (by omega); omega, by omega, ⟨hrd, by have := t_cl (x := q1) (by omega); omega, Or.inl ⟨by omega, by rw [← hw_ke]; exact ce⟩⟩, fun h => absurd kkm1 h⟩, hrow⟩ | exact ⟨by omega, by omega, by omega, by omega, hta, ⟨q2.toNatClampNeg, q2.toNatClampNeg, by have := t_cl (x := q2) (by omega); omega, by have := t_cl (x := q2) (by omega); omega, ⟨hrd, by have := t_cl (x := q1) (by omega); omega, Or.inr ⟨by have z := (hta q2.toNatClampNeg (by have := t_cl (x := q2) (by omega); omega)).2; rw [hw_pe, etl]; omega, by rw [← hw_ke]; exact ce, Or.inr ⟨by have := t_cl (x := q1) (by omega); omega, rfl⟩⟩⟩, fun _ => by rw [hw_pe, etl]⟩, hrow⟩ | exact absurd ((hw_ke.trans hw_kd.symm).trans ck) ce) rfl (hP.sub [0, 1, 2, 3, 4, 5, 6, 7, 8, 9] rfl) (hD.sub [0, 1, 2, 3, 4, 5, 6, 7, 8, 9] (by decide +kernel) rfl) hS dX6_read_142
          · have tce := t_eq ce
            refine lv_iconst (v := (-1)) hx hb dX6_read_127 (by decide) ?_
            refine lv_goto (tgt := 142) hx hb dX6_read_128 (by decide) ?_
            exact hret (-1) (q1, q2, q3, q4, k1, k2, k3, n1_sc, tl1_sc, f1_sc, f2_sc, f3_sc) _ _ _ _ (show 0 ≤ q1.toInt ∧ q1.toInt ≤ 16 ∧ 0 ≤ n1_sc.toInt ∧ n1_sc.toInt ≤ 97 ∧ TokA pf_bytes n.toNatClampNeg n1_sc n f1_sc f2_sc f3_sc ∧ (∃ i_ f_ : Nat, i_ ≤ 96 ∧ f_ ≤ 96 ∧ OutR (kC n1_sc f1_sc) (kC n1_sc f3_sc) ((-1 : Int32).toInt = -1) q1.toNatClampNeg i_ f_ ∧ ((-1 : Int32).toInt ≠ -1 → (-1 : Int32) = pC n1_sc n f2_sc f_)) ∧ Al (RowR (kC n1_sc f1_sc) (kC n1_sc f3_sc) k1 k2 k3) q1.toInt from by first | exact ⟨by omega, by omega, by omega, by omega, hta, ⟨q2.toNatClampNeg, 0, by have := t_cl (x := q2) (by omega); omega, by omega, ⟨hrd, by have := t_cl (x := q1) (by omega); omega, Or.inl ⟨by omega, by rw [← hw_ke]; exact ce⟩⟩, fun h => absurd kkm1 h⟩, hrow⟩ | exact ⟨by omega, by omega, by omega, by omega, hta, ⟨q2.toNatClampNeg, q2.toNatClampNeg, by have := t_cl (x := q2) (by omega); omega, by have := t_cl (x := q2) (by omega); omega, ⟨hrd, by have := t_cl (x := q1) (by omega); omega, Or.inr ⟨by have z := (hta q2.toNatClampNeg (by have := t_cl (x := q2) (by omega); omega)).2; rw [hw_pe, etl]; omega, by rw [← hw_ke]; exact ce, Or.inr ⟨by have := t_cl (x := q1) (by omega); omega, rfl⟩⟩⟩, fun _ => by rw [hw_pe, etl]⟩, hrow⟩ | exact absurd ((hw_ke.trans hw_kd.symm).trans ck) ce) rfl (hP.sub [0, 1, 2, 3, 4, 5, 6, 7, 8, 9] rfl) (hD.sub [0, 1, 2, 3, 4, 5, 6, 7, 8, 9] (by decide +kernel) rfl) hS dX6_read_142
        · have tck := t_neq ck
          refine lv_aload_n hx hb dX6_read_42 rfl (lv_at hl 0 rfl) ?_
          have hPc := hP.sub (ws' := [(h, .inr (6, [.ref a_tokens, .ref a_kinds, .ref a_firsts, .ref a_seconds, .int q1, .int q2, .int q3, .int q4])), (a_tokens, .inr (9, [.ref ta_kinds, .ref ta_places, .ref ta_values, .int n1_sc, .int tl1_sc])), (ta_kinds, .inl (cI, 97, .inl f1_sc)), (ta_values, .inl (cI, 97, .inl f3_sc))]) [0, 4, 5, 7] rfl
          refine rwV (As := []) (rest := []) (wc := [(h, .inr (6, [.ref a_tokens, .ref a_kinds, .ref a_firsts, .ref a_seconds, .int q1, .int q2, .int q3, .int q4])), (a_tokens, .inr (9, [.ref ta_kinds, .ref ta_places, .ref ta_values, .int n1_sc, .int tl1_sc])), (ta_kinds, .inl (cI, 97, .inl f1_sc)), (ta_values, .inl (cI, 97, .inl f3_sc))]) (wr := [(a_kinds, .inl (cI, 16, .inl k1)), (a_firsts, .inl (cI, 16, .inl k2)), (a_seconds, .inl (cI, 16, .inl k3)), (ta_places, .inl (cI, 97, .inl f2_sc)), (hp, .inr (8, [.ref pa_bytes, .int pv_length])), (pa_bytes, .inl (cB, 600, .inl pf_bytes))]) S (p_statement  (by omega) (by omega) (by omega) (by omega)) (cwV 0 hts gX6_read_X6_statement rfl rfl rfl ⟨rfl, hd_X6_statement⟩ ⟨Nat.le_of_ble_eq_true rfl, Nat.le_of_ble_eq_true rfl⟩) hK hP hD hS hA [0, 4, 5, 7] [1, 2, 3, 6, 8, 9] rfl rfl (by decide +kernel) (by decide +kernel) (by decide +kernel) (va_recv hK.1 hPc (ci := 6) (q0 := 0) rfl rfl) rfl hl.1 rfl (Nat.le_of_ble_eq_true rfl) dX6_read_43 ⟨Nat.le_of_ble_eq_true rfl, Nat.le_of_ble_eq_true rfl⟩ (fun r_st u_st H locs hw_st hP hD hS => ?_)
          obtain ⟨n1_st, n2_st, n3_st⟩ := u_st
          have hw_st : r_st = (stmF (kC n1_sc f1_sc) (kC n1_sc f3_sc) q2.toNatClampNeg).1 ∧ n1_st.toNatClampNeg = (stmF (kC n1_sc f1_sc) (kC n1_sc f3_sc) q2.toNatClampNeg).2.1 ∧ q2.toInt ≤ n1_st.toInt ∧ n1_st.toInt ≤ q2.toInt + 6 ∧ (r_st.toInt ≠ -1 → n2_st = (stmF (kC n1_sc f1_sc) (kC n1_sc f3_sc) q2.toNatClampNeg).2.2.1 ∧ n3_st = (stmF (kC n1_sc f1_sc) (kC n1_sc f3_sc) q2.toNatClampNeg).2.2.2) := hw_st
          have hP : va_P D vwCl [(a_kinds, .inl (cI, 16, .inl k1)), (a_firsts, .inl (cI, 16, .inl k2)), (a_seconds, .inl (cI, 16, .inl k3)), (ta_places, .inl (cI, 97, .inl f2_sc)), (hp, .inr (8, [.ref pa_bytes, .int pv_length])), (pa_bytes, .inl (cB, 600, .inl pf_bytes)), (h, .inr (6, [.ref a_tokens, .ref a_kinds, .ref a_firsts, .ref a_seconds, .int q1, .int n1_st, .int n2_st, .int n3_st])), (a_tokens, .inr (9, [.ref ta_kinds, .ref ta_places, .ref ta_values, .int n1_sc, .int tl1_sc])), (ta_kinds, .inl (cI, 97, .inl f1_sc)), (ta_values, .inl (cI, 97, .inl f3_sc))] H := hP
          have hD := asD hP hD
          have hst3 := hw_st.2.2.1
          have hst4 := hw_st.2.2.2.1
          refine lv_istore_n (lv' := [(3, .int r_st), (0, .ref h), (1, .ref hp), (2, .int n)]) hx hb dX6_read_46 rfl hl (by decide) rfl (fun ls hl => ?_)
          refine lv_iload_n hx hb dX6_read_47 rfl (lv_at hl 0 rfl) ?_
          refine lv_iconst (v := (-1)) hx hb dX6_read_48 (by decide) ?_
          refine lv_icmp_ne (tgt := 64) hx hb dX6_read_49 (by decide) (fun cs => ?_) (fun cs => ?_)
          · have tcs := t_neq cs
            refine lv_aload_n hx hb dX6_read_64 rfl (lv_at hl 1 rfl) ?_
            refine va_get (D := D) (ci := 6) (v := .ref a_kinds) (C := RX6) (T := TX6) (N := 8) hx hb hts in_p_read_X6 hown hK.1 hP 6 rfl rfl 1 (by decide) lk3 (fun _ h9 => h9) rfl dX6_read_65 ?_
            refine lv_aload_n hx hb dX6_read_68 rfl (lv_at hl 1 rfl) ?_
            refine va_get (D := D) (ci := 6) (v := .int q1) (C := RX6) (T := TX6) (N := 8) hx hb hts in_p_read_X6 hown hK.1 hP 6 rfl rfl 4 (by decide) lk2 (fun _ h9 => h9) rfl dX6_read_69 ?_
            refine lv_iload_n hx hb dX6_read_72 rfl (lv_at hl 0 rfl) ?_
            refine va_iast hx hb hK.1 hP hD hS 0 0 rfl rfl (t_in (by omega) (by omega)) dX6_read_73 (fun H locs hP hD hS => ?_)
            obtain ⟨r1, er1⟩ : ∃ z : Nat → Int32, z = upd k1 ((q1 : Int32).toNatClampNeg) r_st := ⟨_, rfl⟩
            rw [← er1] at hP hD
            have hP : va_P D vwCl [(a_kinds, .inl (cI, 16, .inl r1)), (a_firsts, .inl (cI, 16, .inl k2)), (a_seconds, .inl (cI, 16, .inl k3)), (ta_places, .inl (cI, 97, .inl f2_sc)), (hp, .inr (8, [.ref pa_bytes, .int pv_length])), (pa_bytes, .inl (cB, 600, .inl pf_bytes)), (h, .inr (6, [.ref a_tokens, .ref a_kinds, .ref a_firsts, .ref a_seconds, .int q1, .int n1_st, .int n2_st, .int n3_st])), (a_tokens, .inr (9, [.ref ta_kinds, .ref ta_places, .ref ta_values, .int n1_sc, .int tl1_sc])), (ta_kinds, .inl (cI, 97, .inl f1_sc)), (ta_values, .inl (cI, 97, .inl f3_sc))] H := hP
            have hD := asD hP hD
            refine lv_aload_n hx hb dX6_read_74 rfl (lv_at hl 1 rfl) ?_
            refine va_get (D := D) (ci := 6) (v := .ref a_firsts) (C := RX6) (T := TX6) (N := 8) hx hb hts in_p_read_X6 hown hK.1 hP 6 rfl rfl 2 (by decide) lk4 (fun _ h9 => h9) rfl dX6_read_75 ?_
            refine lv_aload_n hx hb dX6_read_78 rfl (lv_at hl 1 rfl) ?_
            refine va_get (D := D) (ci := 6) (v := .int q1) (C := RX6) (T := TX6) (N := 8) hx hb hts in_p_read_X6 hown hK.1 hP 6 rfl rfl 4 (by decide) lk2 (fun _ h9 => h9) rfl dX6_read_79 ?_
            refine lv_aload_n hx hb dX6_read_82 rfl (lv_at hl 1 rfl) ?_
            refine va_get (D := D) (ci := 6) (v := .int n2_st) (C := RX6) (T := TX6) (N := 8) hx hb hts in_p_read_X6 hown hK.1 hP 6 rfl rfl 6 (by decide) lk5 (fun _ h9 => h9) rfl dX6_read_83 ?_
            refine va_iast hx hb hK.1 hP hD hS 1 0 rfl rfl (t_in (by omega) (by omega)) dX6_read_86 (fun H locs hP hD hS => ?_)
            obtain ⟨r2, er2⟩ : ∃ z : Nat → Int32, z = upd k2 ((q1 : Int32).toNatClampNeg) n2_st := ⟨_, rfl⟩
            rw [← er2] at hP hD
            have hP : va_P D vwCl [(a_kinds, .inl (cI, 16, .inl r1)), (a_firsts, .inl (cI, 16, .inl r2)), (a_seconds, .inl (cI, 16, .inl k3)), (ta_places, .inl (cI, 97, .inl f2_sc)), (hp, .inr (8, [.ref pa_bytes, .int pv_length])), (pa_bytes, .inl (cB, 600, .inl pf_bytes)), (h, .inr (6, [.ref a_tokens, .ref a_kinds, .ref a_firsts, .ref a_seconds, .int q1, .int n1_st, .int n2_st, .int n3_st])), (a_tokens, .inr (9, [.ref ta_kinds, .ref ta_places, .ref ta_values, .int n1_sc, .int tl1_sc])), (ta_kinds, .inl (cI, 97, .inl f1_sc)), (ta_values, .inl (cI, 97, .inl f3_sc))] H := hP
            have hD := asD hP hD
            refine lv_aload_n hx hb dX6_read_87 rfl (lv_at hl 1 rfl) ?_
            refine va_get (D := D) (ci := 6) (v := .ref a_seconds) (C := RX6) (T := TX6) (N := 8) hx hb hts in_p_read_X6 hown hK.1 hP 6 rfl rfl 3 (by decide) lk6 (fun _ h9 => h9) rfl dX6_read_88 ?_
            refine lv_aload_n hx hb dX6_read_91 rfl (lv_at hl 1 rfl) ?_
            refine va_get (D := D) (ci := 6) (v := .int q1) (C := RX6) (T := TX6) (N := 8) hx hb hts in_p_read_X6 hown hK.1 hP 6 rfl rfl 4 (by decide) lk2 (fun _ h9 => h9) rfl dX6_read_92 ?_
            refine lv_aload_n hx hb dX6_read_95 rfl (lv_at hl 1 rfl) ?_
            refine va_get (D := D) (ci := 6) (v := .int n3_st) (C := RX6) (T := TX6) (N := 8) hx hb hts in_p_read_X6 hown hK.1 hP 6 rfl rfl 7 (by decide) lk7 (fun _ h9 => h9) rfl dX6_read_96 ?_
            refine va_iast hx hb hK.1 hP hD hS 2 0 rfl rfl (t_in (by omega) (by omega)) dX6_read_99 (fun H locs hP hD hS => ?_)
            obtain ⟨r3, er3⟩ : ∃ z : Nat → Int32, z = upd k3 ((q1 : Int32).toNatClampNeg) n3_st := ⟨_, rfl⟩
            rw [← er3] at hP hD
            have hP : va_P D vwCl [(a_kinds, .inl (cI, 16, .inl r1)), (a_firsts, .inl (cI, 16, .inl r2)), (a_seconds, .inl (cI, 16, .inl r3)), (ta_places, .inl (cI, 97, .inl f2_sc)), (hp, .inr (8, [.ref pa_bytes, .int pv_length])), (pa_bytes, .inl (cB, 600, .inl pf_bytes)), (h, .inr (6, [.ref a_tokens, .ref a_kinds, .ref a_firsts, .ref a_seconds, .int q1, .int n1_st, .int n2_st, .int n3_st])), (a_tokens, .inr (9, [.ref ta_kinds, .ref ta_places, .ref ta_values, .int n1_sc, .int tl1_sc])), (ta_kinds, .inl (cI, 97, .inl f1_sc)), (ta_values, .inl (cI, 97, .inl f3_sc))] H := hP
            have hD := asD hP hD
            refine lv_aload_n hx hb dX6_read_100 rfl (lv_at hl 1 rfl) ?_
            refine lv_dup hx hb dX6_read_101 rfl ?_
            refine va_get (D := D) (ci := 6) (v := .int q1) (C := RX6) (T := TX6) (N := 8) hx hb hts in_p_read_X6 hown hK.1 hP 6 rfl rfl 4 (by decide) lk2 (fun _ h9 => h9) rfl dX6_read_102 ?_
            refine lv_iconst (v := 1) hx hb dX6_read_105 (by decide) ?_
            refine lv_iadd hx hb dX6_read_106 ?_
            refine lv_topi (fun x_9 ex_9 => ?_)
            first | have tx_9 := t_add ex_9 (by omega) (by omega) | skip
            refine va_put (D := D) (ci := 6) (v := .int x_9) (ty := .int) (C := RX6) (T := TX6) (N := 8) hx hb hts in_p_read_X6 tyX6 tyX6_ok nmX6 hown hK.1 hP hD hS 6 rfl rfl 4 (by decide) lk2 (fun _ h9 => h9) rfl (by decide +kernel) rfl rfl (Nat.le_of_ble_eq_true rfl) dX6_read_107 (fun H locs hP hD hS => ?_)
            have hP : va_P D vwCl [(a_kinds, .inl (cI, 16, .inl r1)), (a_firsts, .inl (cI, 16, .inl r2)), (a_seconds, .inl (cI, 16, .inl r3)), (ta_places, .inl (cI, 97, .inl f2_sc)), (hp, .inr (8, [.ref pa_bytes, .int pv_length])), (pa_bytes, .inl (cB, 600, .inl pf_bytes)), (h, .inr (6, [.ref a_tokens, .ref a_kinds, .ref a_firsts, .ref a_seconds, .int x_9, .int n1_st, .int n2_st, .int n3_st])), (a_tokens, .inr (9, [.ref ta_kinds, .ref ta_places, .ref ta_values, .int n1_sc, .int tl1_sc])), (ta_kinds, .inl (cI, 97, .inl f1_sc)), (ta_values, .inl (cI, 97, .inl f3_sc))] H := hP
            have hD := asD hP hD
            refine lv_goto (tgt := 19) hx hb dX6_read_110 (by decide) ?_
            exact ih19 x_9 n1_st n2_st n3_st r1 r2 r3 (by omega) (by omega) (by omega) (by omega) (by omega) (by rw [ix1 (x := x_9) (i := q1) (by omega) (by omega)]; exact ⟨q2.toNatClampNeg, hrd, by rw [← hw_kd]; exact ck, fun z => cs (hw_st.1.trans z), hw_st.2.1⟩) (by rw [er1, er2, er3]; exact row_put hrow (by omega) (by omega) hrd hw_st.1 (hw_st.2.2.2.2 (fun z => cs (i32_ext (by omega)))).1 (hw_st.2.2.2.2 (fun z => cs (i32_ext (by omega)))).2) _ _ (hP.sub [6, 0, 1, 2, 7, 8, 3, 9, 4, 5] rfl) (hD.sub [6, 0, 1, 2, 7, 8, 3, 9, 4, 5] (by decide +kernel) rfl) hS ls (lv_sub hl [1, 2, 3] rfl)
          · have tcs := t_eq cs
            refine lv_aload_n hx hb dX6_read_52 rfl (lv_at hl 1 rfl) ?_
            refine va_get (D := D) (ci := 6) (v := .ref a_tokens) (C := RX6) (T := TX6) (N := 8) hx hb hts in_p_read_X6 hown hK.1 hP 6 rfl rfl 0 (by decide) lk0 (fun _ h9 => h9) rfl dX6_read_53 ?_
            refine lv_aload_n hx hb dX6_read_56 rfl (lv_at hl 1 rfl) ?_
            refine va_get (D := D) (ci := 6) (v := .int n1_st) (C := RX6) (T := TX6) (N := 8) hx hb hts in_p_read_X6 hown hK.1 hP 6 rfl rfl 5 (by decide) lk1 (fun _ h9 => h9) rfl dX6_read_57 ?_
            have hPc := hP.sub (ws' := [(a_tokens, .inr (9, [.ref ta_kinds, .ref ta_places, .ref ta_values, .int n1_sc, .int tl1_sc])), (ta_places, .inl (cI, 97, .inl f2_sc))]) [7, 3] rfl
            refine roV (As := [.int n1_st]) (rest := []) S (p_place  (by omega) (by omega) (by omega)) (cwV 1 hts gX6_read_X10_place rfl rfl rfl ⟨rfl, hd_X10_place⟩ ⟨Nat.le_of_ble_eq_true rfl, Nat.le_of_ble_eq_true rfl⟩) hK hPc (va_recv hK.1 hPc (ci := 9) (q0 := 0) rfl rfl) rfl hl.1 rfl (Nat.le_of_ble_eq_true rfl) dX6_read_60 ⟨Nat.le_of_ble_eq_true rfl, Nat.le_of_ble_eq_true rfl⟩ (fun r_pl hw_pl => ?_)
            have hw_pl : r_pl = pC n1_sc tl1_sc f2_sc n1_st.toNatClampNeg := hw_pl
            exact hret r_pl (q1, n1_st, n2_st, n3_st, k1, k2, k3, n1_sc, tl1_sc, f1_sc, f2_sc, f3_sc) _ _ _ _ (show 0 ≤ q1.toInt ∧ q1.toInt ≤ 16 ∧ 0 ≤ n1_sc.toInt ∧ n1_sc.toInt ≤ 97 ∧ TokA pf_bytes n.toNatClampNeg n1_sc n f1_sc f2_sc f3_sc ∧ (∃ i_ f_ : Nat, i_ ≤ 96 ∧ f_ ≤ 96 ∧ OutR (kC n1_sc f1_sc) (kC n1_sc f3_sc) (r_pl.toInt = -1) q1.toNatClampNeg i_ f_ ∧ (r_pl.toInt ≠ -1 → r_pl = pC n1_sc n f2_sc f_)) ∧ Al (RowR (kC n1_sc f1_sc) (kC n1_sc f3_sc) k1 k2 k3) q1.toInt from ⟨by omega, by omega, by omega, by omega, hta, ⟨q2.toNatClampNeg, n1_st.toNatClampNeg, by have := t_cl (x := q2) (by omega); omega, by have := t_cl (x := n1_st) (by omega); omega, ⟨hrd, by have := t_cl (x := q1) (by omega); omega, Or.inr ⟨by have z := (hta n1_st.toNatClampNeg (by have := t_cl (x := n1_st) (by omega); omega)).2; rw [hw_pl, etl]; omega, by rw [← hw_kd]; exact ck, Or.inl ⟨by have := t_cl (x := q1) (by omega); omega, hw_st.1.symm.trans cs, hw_st.2.1⟩⟩⟩, fun _ => by rw [hw_pl, etl]⟩, hrow⟩) rfl (hP.sub [6, 0, 1, 2, 7, 8, 3, 9, 4, 5] rfl) (hD.sub [6, 0, 1, 2, 7, 8, 3, 9, 4, 5] (by decide +kernel) rfl) hS dX6_read_63
  exact loop19 ((16 - (0 : Int32).toInt).toNat + 1) 0 0 v_first v_second f_kinds f_firsts f_seconds (by omega) (by omega) (by omega) (by omega) (by omega) (by rw [ix0]; exact (rfl : (0 : Nat) = 0)) (Al.zero (by omega)) _ _ hP hD hS ls (lv_sub hl [0, 1, 2] rfl)

