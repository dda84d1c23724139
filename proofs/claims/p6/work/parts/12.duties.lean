theorem in_u_holder_X2 : ∀ w ∈ wsX20, w ∈ wsX2_holder := tl_X2_holder_X2
set_option maxHeartbeats 8000000 in
set_option maxRecDepth 100000 in
theorem u_holder {l : Launch} {D : va_G} {cI cZ cB : ClassId} {h a_holders a_taken ac L : Nat} {fc : Nat → Int32} {d k : Int32} (hL : L < 65536) : Met l yX2_holder wsX2_holder ({ frames := 2, cells := 0, slots := 0, locals := 44 }) (RO D cI cZ cB [.ref h, .int d, .int k] [(h, .inr (2, [.ref a_holders, .ref a_taken])), (a_holders, .inr (1, [.int 4, .ref ac])), (ac, .inl (cI, L, .inl fc))]) (vp_Si (fun r : Int32 => True)) 0 0 (fun _ => False) := by
  refine ro_ret (cc := cX2_holder) (maxL := 3) (ty := .int) (own := RX2) (by decide) rfl rfl (Nat.le_of_ble_eq_true rfl) ?_
  intro p e s m args below meth c Q S hret hP hK ls hl
  obtain ⟨hx, hb, hml, hown, hts⟩ := id S
  have hl : lv_has ls 3 [(0, .ref h), (1, .int d), (2, .int k)] := hl
  have kk0 : (0 : Int32).toInt = 0 := by decide
  have lk0 := hts (.fieldLink RX2 14 "AbbeyHours$Duties" "holders" "LAbbeyHours$DayTable;") (List.mem_cons_of_mem _ (List.mem_append_left _ (List.mem_append_left _ (List.mem_of_getElem? (i := 0) rfl))))
  refine lv_aload_n hx hb dX2_holder_0 rfl (lv_at hl 0 rfl) ?_
  refine va_get (D := D) (ci := 2) (v := .ref a_holders) (C := RX2) (T := TX2) (N := 2) hx hb hts in_u_holder_X2 hown hK.1 hP 0 rfl rfl 0 (by decide) lk0 (fun _ h9 => h9) rfl dX2_holder_1 ?_
  refine lv_iload_n hx hb dX2_holder_4 rfl (lv_at hl 1 rfl) ?_
  refine lv_iload_n hx hb dX2_holder_5 rfl (lv_at hl 2 rfl) ?_
  have hPc := hP.sub (ws' := [(a_holders, .inr (1, [.int 4, .ref ac])), (ac, .inl (cI, L, .inl fc))]) [1, 2] rfl
  refine roV (As := [.int d, .int k]) (rest := []) S (d4_at  (by omega)) (cwV 2 hts gX2_holder_X1_at rfl rfl rfl ⟨rfl, hd_X1_at⟩ ⟨Nat.le_of_ble_eq_true rfl, Nat.le_of_ble_eq_true rfl⟩) hK hPc (va_recv hK.1 hPc (ci := 1) (q0 := 0) rfl rfl) rfl hl.1 rfl (Nat.le_of_ble_eq_true rfl) dX2_holder_6 ⟨Nat.le_of_ble_eq_true rfl, Nat.le_of_ble_eq_true rfl⟩ (fun r_1 hw_1 => ?_)
  have hw_1 : True := hw_1
  exact hret r_1 _ _ (show True from trivial) rfl dX2_holder_9

theorem in_u_taken_X2 : ∀ w ∈ wsX20, w ∈ wsX2_turnsTaken := tl_X2_turnsTaken_X2
set_option maxHeartbeats 8000000 in
set_option maxRecDepth 100000 in
theorem u_taken {l : Launch} {D : va_G} {cI cZ cB : ClassId} {h a_holders a_taken : Nat} {ft : Nat → Int32} {i k : Int32} (hi0 : 0 ≤ i.toInt) (hi1 : i.toInt < 24) (hk0 : 0 ≤ k.toInt) (hk1 : k.toInt < 4) : Met l yX2_turnsTaken wsX2_turnsTaken ({ frames := 0, cells := 0, slots := 0, locals := 0 }) (RO D cI cZ cB [.ref h, .int i, .int k] [(h, .inr (2, [.ref a_holders, .ref a_taken])), (a_taken, .inl (cI, 96, .inl ft))]) (vp_Si (fun r : Int32 => True)) 0 0 (fun _ => False) := by
  refine ro_ret (cc := cX2_turnsTaken) (maxL := 3) (ty := .int) (own := RX2) (by decide) rfl rfl (Nat.le_of_ble_eq_true rfl) ?_
  intro p e s m args below meth c Q S hret hP hK ls hl
  obtain ⟨hx, hb, hml, hown, hts⟩ := id S
  have hl : lv_has ls 3 [(0, .ref h), (1, .int i), (2, .int k)] := hl
  have kk0 : (0 : Int32).toInt = 0 := by decide
  have kk4 : (4 : Int32).toInt = 4 := by decide
  have lk0 := hts (.fieldLink RX2 22 "AbbeyHours$Duties" "taken" "[I") (List.mem_cons_of_mem _ (List.mem_append_left _ (List.mem_of_getElem? (i := 0) rfl)))
  refine lv_aload_n hx hb dX2_turnsTaken_0 rfl (lv_at hl 0 rfl) ?_
  refine va_get (D := D) (ci := 2) (v := .ref a_taken) (C := RX2) (T := TX2) (N := 2) hx hb hts in_u_taken_X2 hown hK.1 hP 0 rfl rfl 1 (by decide) lk0 (fun _ h9 => h9) rfl dX2_turnsTaken_1 ?_
  refine lv_iload_n hx hb dX2_turnsTaken_4 rfl (lv_at hl 1 rfl) ?_
  refine lv_iconst (v := 4) hx hb dX2_turnsTaken_5 (by decide) ?_
  refine lv_imul hx hb dX2_turnsTaken_6 ?_
  refine lv_topi (fun x_1 ex_1 => ?_)
  first | have tx_1 := t_mulK kk4 ex_1 (by omega) (by omega) | skip
  refine lv_iload_n hx hb dX2_turnsTaken_7 rfl (lv_at hl 2 rfl) ?_
  refine lv_iadd hx hb dX2_turnsTaken_8 ?_
  refine lv_topi (fun x_2 ex_2 => ?_)
  first | have tx_2 := t_add ex_2 (by omega) (by omega) | skip
  refine va_iald hx hb hK.1 hP 1 0 rfl rfl (t_in (by omega) (by omega)) dX2_turnsTaken_9 ?_
  refine lv_topi (fun y_3 ey_3 => ?_)
  exact hret y_3 _ _ (show True from trivial) rfl dX2_turnsTaken_10

set_option maxHeartbeats 8000000 in
set_option maxRecDepth 100000 in
theorem u_inAll {l : Launch} {D : va_G} {cI cZ cB : ClassId} {h a_holders a_taken : Nat} {ft : Nat → Int32} {i : Int32} (hi0 : 0 ≤ i.toInt) (hi1 : i.toInt < 24) : Met l yX2_turnsInAll wsX2_turnsInAll ({ frames := 1, cells := 0, slots := 0, locals := 22 }) (RO D cI cZ cB [.ref h, .int i] [(h, .inr (2, [.ref a_holders, .ref a_taken])), (a_taken, .inl (cI, 96, .inl ft))]) (vp_Si (fun r : Int32 => True)) 0 0 (fun _ => False) := by
  refine ro_ret (cc := cX2_turnsInAll) (maxL := 4) (ty := .int) (own := RX2) (by decide) rfl rfl (Nat.le_of_ble_eq_true rfl) ?_
  intro p e s m args below meth c Q S hret hP hK ls hl
  obtain ⟨hx, hb, hml, hown, hts⟩ := id S
  have hl : lv_has ls 4 [(0, .ref h), (1, .int i)] := hl
  have kk0 : (0 : Int32).toInt = 0 := by decide
  have kk1 : (1 : Int32).toInt = 1 := by decide
  have kk4 : (4 : Int32).toInt = 4 := by decide
  refine lv_iconst (v := 0) hx hb dX2_turnsInAll_0 (by decide) ?_
  refine lv_istore_n (lv' := [(2, .int 0), (0, .ref h), (1, .int i)]) hx hb dX2_turnsInAll_1 rfl hl (by decide) rfl (fun ls hl => ?_)
  refine lv_iconst (v := 0) hx hb dX2_turnsInAll_2 (by decide) ?_
  refine lv_istore_n (lv' := [(3, .int 0), (2, .int 0), (0, .ref h), (1, .int i)]) hx hb dX2_turnsInAll_3 rfl hl (by decide) rfl (fun ls hl => ?_)
  have loop4 : ∀ (fuel : Nat) (a : Int32) (j : Int32), 4 - j.toInt < (fuel : Int) → (0 ≤ j.toInt) → (j.toInt ≤ 4) → ∀ ls : Array Slot, lv_has ls 4 [(3, .int j), (2, .int a), (0, .ref h), (1, .int i)] → W p l e ({ frames := 1, cells := 0, slots := 0, locals := 22 } : Room) s m args below meth c s.heap [] 0 0 Q (F0 m 4 ls []) := by
    intro fuel
    induction fuel with
    | zero =>
      intro a j hmu hj0 hj1 ls hl
      exfalso; omega
    | succ fuel ih4 =>
      intro a j hmu hj0 hj1 ls hl
      refine lv_iload_n hx hb dX2_turnsInAll_4 rfl (lv_at hl 0 rfl) ?_
      refine lv_iconst (v := 4) hx hb dX2_turnsInAll_5 (by decide) ?_
      refine lv_icmp_ge (tgt := 24) hx hb dX2_turnsInAll_6 (by decide) (fun c_1 => ?_) (fun c_1 => ?_)
      · have tc_1 := t_le c_1
        refine lv_iload_n hx hb dX2_turnsInAll_24 rfl (lv_at hl 1 rfl) ?_
        exact hret a _ _ (show True from trivial) rfl dX2_turnsInAll_25
      · have tc_1 := t_nle c_1
        refine lv_iload_n hx hb dX2_turnsInAll_9 rfl (lv_at hl 1 rfl) ?_
        refine lv_aload_n hx hb dX2_turnsInAll_10 rfl (lv_at hl 2 rfl) ?_
        refine lv_iload_n hx hb dX2_turnsInAll_11 rfl (lv_at hl 3 rfl) ?_
        refine lv_iload_n hx hb dX2_turnsInAll_12 rfl (lv_at hl 0 rfl) ?_
        have hPc := hP.sub (ws' := [(h, .inr (2, [.ref a_holders, .ref a_taken])), (a_taken, .inl (cI, 96, .inl ft))]) [0, 1] rfl
        refine roV (As := [.int i, .int j]) (rest := [.int a]) S (u_taken  (by omega) (by omega) (by omega) (by omega)) (cwV 2 hts gX2_turnsInAll_X2_turnsTaken rfl rfl rfl ⟨rfl, hd_X2_turnsTaken⟩ ⟨Nat.le_of_ble_eq_true rfl, Nat.le_of_ble_eq_true rfl⟩) hK hPc (va_recv hK.1 hPc (ci := 2) (q0 := 0) rfl rfl) rfl hl.1 rfl (Nat.le_of_ble_eq_true rfl) dX2_turnsInAll_13 ⟨Nat.le_of_ble_eq_true rfl, Nat.le_of_ble_eq_true rfl⟩ (fun r_2 hw_2 => ?_)
        have hw_2 : True := hw_2
        refine lv_iadd hx hb dX2_turnsInAll_16 ?_
        refine lv_topi (fun x_3 ex_3 => ?_)
        refine lv_istore_n (lv' := [(2, .int x_3), (3, .int j), (0, .ref h), (1, .int i)]) hx hb dX2_turnsInAll_17 rfl hl (by decide) rfl (fun ls hl => ?_)
        obtain ⟨x_4, ex_4⟩ : ∃ y : Int32, y = j + 1 := ⟨_, rfl⟩
        refine lv_iinc (v := x_4) (lv' := [(3, .int x_4), (2, .int x_3), (0, .ref h), (1, .int i)]) hx hb dX2_turnsInAll_18 hl (k := 1) rfl (by rw [ex_4]; rfl) (by decide) rfl (fun ls hl => ?_)
        first | have tx_4 := t_add ex_4 (by omega) (by omega) | skip
        refine lv_goto (tgt := 4) hx hb dX2_turnsInAll_21 (by decide) ?_
        exact ih4 x_3 x_4 (by omega) (by omega) (by omega) ls (lv_sub hl [0, 1, 2, 3] rfl)
  exact loop4 ((4 - (0 : Int32).toInt).toNat + 1) 0 0 (by omega) (by omega) (by omega) ls (lv_sub hl [0, 1, 2, 3] rfl)

set_option maxHeartbeats 8000000 in
set_option maxRecDepth 100000 in
theorem u_isFree {l : Launch} {D : va_G} {cI cZ cB : ClassId} {h a_holders a_taken ac L : Nat} {fc : Nat → Int32} {i d : Int32} (hL : L < 65536) : Met l yX2_isFree wsX2_isFree ({ frames := 3, cells := 0, slots := 0, locals := 66 }) (RO D cI cZ cB [.ref h, .int i, .int d] [(h, .inr (2, [.ref a_holders, .ref a_taken])), (a_holders, .inr (1, [.int 4, .ref ac])), (ac, .inl (cI, L, .inl fc))]) (vp_Si (fun r : Int32 => (r.toInt = 0 ∨ r.toInt = 1))) 0 0 (fun _ => False) := by
  refine ro_ret (cc := cX2_isFree) (maxL := 4) (ty := .boolean) (own := RX2) (by decide) rfl rfl (Nat.le_of_ble_eq_true rfl) ?_
  intro p e s m args below meth c Q S hret hP hK ls hl
  obtain ⟨hx, hb, hml, hown, hts⟩ := id S
  have hl : lv_has ls 4 [(0, .ref h), (1, .int i), (2, .int d)] := hl
  have kk0 : (0 : Int32).toInt = 0 := by decide
  have kk1 : (1 : Int32).toInt = 1 := by decide
  have kk4 : (4 : Int32).toInt = 4 := by decide
  refine lv_iconst (v := 0) hx hb dX2_isFree_0 (by decide) ?_
  refine lv_istore_n (lv' := [(3, .int 0), (0, .ref h), (1, .int i), (2, .int d)]) hx hb dX2_isFree_1 rfl hl (by decide) rfl (fun ls hl => ?_)
  have loop2 : ∀ (fuel : Nat) (j : Int32), 4 - j.toInt < (fuel : Int) → (0 ≤ j.toInt) → (j.toInt ≤ 4) → ∀ ls : Array Slot, lv_has ls 4 [(3, .int j), (0, .ref h), (1, .int i), (2, .int d)] → W p l e ({ frames := 3, cells := 0, slots := 0, locals := 66 } : Room) s m args below meth c s.heap [] 0 0 Q (F0 m 2 ls []) := by
    intro fuel
    induction fuel with
    | zero =>
      intro j hmu hi0 hi1 ls hl
      exfalso; omega
    | succ fuel ih2 =>
      intro j hmu hi0 hi1 ls hl
      refine lv_iload_n hx hb dX2_isFree_2 rfl (lv_at hl 0 rfl) ?_
      refine lv_iconst (v := 4) hx hb dX2_isFree_3 (by decide) ?_
      refine lv_icmp_ge (tgt := 25) hx hb dX2_isFree_4 (by decide) (fun c_1 => ?_) (fun c_1 => ?_)
      · have tc_1 := t_le c_1
        refine lv_iconst (v := 1) hx hb dX2_isFree_25 (by decide) ?_
        exact hret 1 _ _ (show ((1 : Int32).toInt = 0 ∨ (1 : Int32).toInt = 1) from by omega) rfl dX2_isFree_26
      · have tc_1 := t_nle c_1
        refine lv_aload_n hx hb dX2_isFree_7 rfl (lv_at hl 1 rfl) ?_
        refine lv_iload_n hx hb dX2_isFree_8 rfl (lv_at hl 3 rfl) ?_
        refine lv_iload_n hx hb dX2_isFree_9 rfl (lv_at hl 0 rfl) ?_
        have hPc := hP.sub (ws' := [(h, .inr (2, [.ref a_holders, .ref a_taken])), (a_holders, .inr (1, [.int 4, .ref ac])), (ac, .inl (cI, L, .inl fc))]) [0, 1, 2] rfl
        refine roV (As := [.int d, .int j]) (rest := []) S (u_holder  (by omega)) (cwV 2 hts gX2_isFree_X2_holder rfl rfl rfl ⟨rfl, hd_X2_holder⟩ ⟨Nat.le_of_ble_eq_true rfl, Nat.le_of_ble_eq_true rfl⟩) hK hPc (va_recv hK.1 hPc (ci := 2) (q0 := 0) rfl rfl) rfl hl.1 rfl (Nat.le_of_ble_eq_true rfl) dX2_isFree_10 ⟨Nat.le_of_ble_eq_true rfl, Nat.le_of_ble_eq_true rfl⟩ (fun r_2 hw_2 => ?_)
        have hw_2 : True := hw_2
        refine lv_iload_n hx hb dX2_isFree_13 rfl (lv_at hl 2 rfl) ?_
        refine lv_icmp_ne (tgt := 19) hx hb dX2_isFree_14 (by decide) (fun c_3 => ?_) (fun c_3 => ?_)
        · have tc_3 := t_neq c_3
          obtain ⟨x_4, ex_4⟩ : ∃ y : Int32, y = j + 1 := ⟨_, rfl⟩
          refine lv_iinc (v := x_4) (lv' := [(3, .int x_4), (0, .ref h), (1, .int i), (2, .int d)]) hx hb dX2_isFree_19 hl (k := 0) rfl (by rw [ex_4]; rfl) (by decide) rfl (fun ls hl => ?_)
          first | have tx_4 := t_add ex_4 (by omega) (by omega) | skip
          refine lv_goto (tgt := 2) hx hb dX2_isFree_22 (by decide) ?_
          exact ih2 x_4 (by omega) (by omega) (by omega) ls (lv_sub hl [0, 1, 2, 3] rfl)
        · have tc_3 := t_eq c_3
          refine lv_iconst (v := 0) hx hb dX2_isFree_17 (by decide) ?_
          exact hret 0 _ _ (show ((0 : Int32).toInt = 0 ∨ (0 : Int32).toInt = 1) from by omega) rfl dX2_isFree_18
  exact loop2 ((4 - (0 : Int32).toInt).toNat + 1) 0 (by omega) (by omega) (by omega) ls (lv_sub hl [0, 1, 2, 3] rfl)

set_option maxHeartbeats 8000000 in
set_option maxRecDepth 100000 in
theorem u_choose {l : Launch} {D : va_G} {cI cZ cB : ClassId} {h a_holders a_taken ac L hm ma_priests ma_barred ma_cameOn ma_absent ma_absentFrom ma_absentTo : Nat} {mv_size mv_rows : Int32} {fc ft mf_barred mf_cameOn mf_absent mf_absentFrom mf_absentTo : Nat → Int32} {d k : Int32} (hL : L < 65536) (hmv_size0 : 0 ≤ mv_size.toInt) (hmv_size1 : mv_size.toInt ≤ 24) (hmv_rows0 : 0 ≤ mv_rows.toInt) (hmv_rows1 : mv_rows.toInt ≤ 60) (hk0 : 0 ≤ k.toInt) (hk1 : k.toInt < 4) : Met l yX2_choose wsX2_choose ({ frames := 4, cells := 0, slots := 0, locals := 89 }) (RO D cI cZ cB [.ref h, .ref hm, .int d, .int k] [(h, .inr (2, [.ref a_holders, .ref a_taken])), (a_holders, .inr (1, [.int 4, .ref ac])), (ac, .inl (cI, L, .inl fc)), (a_taken, .inl (cI, 96, .inl ft)), (hm, .inr (5, [.ref ma_priests, .ref ma_barred, .ref ma_cameOn, .ref ma_absent, .ref ma_absentFrom, .ref ma_absentTo, .int mv_size, .int mv_rows])), (ma_barred, .inl (cI, 24, .inl mf_barred)), (ma_cameOn, .inl (cI, 24, .inl mf_cameOn)), (ma_absent, .inl (cI, 60, .inl mf_absent)), (ma_absentFrom, .inl (cI, 60, .inl mf_absentFrom)), (ma_absentTo, .inl (cI, 60, .inl mf_absentTo))]) (vp_Si (fun r : Int32 => r.toInt = -1 ∨ (0 ≤ r.toInt ∧ r.toInt < mv_size.toInt))) 0 0 (fun _ => False) := by
  refine ro_ret (cc := cX2_choose) (maxL := 7) (ty := .int) (own := RX2) (by decide) rfl rfl (Nat.le_of_ble_eq_true rfl) ?_
  intro p e s m args below meth c Q S hret hP hK ls hl
  obtain ⟨hx, hb, hml, hown, hts⟩ := id S
  have hl : lv_has ls 7 [(0, .ref h), (1, .ref hm), (2, .int d), (3, .int k)] := hl
  have kkm1 : (-1 : Int32).toInt = -1 := by decide
  have kk0 : (0 : Int32).toInt = 0 := by decide
  have kk1 : (1 : Int32).toInt = 1 := by decide
  refine lv_iconst (v := (-1)) hx hb dX2_choose_0 (by decide) ?_
  refine lv_istore (lv' := [(4, .int (-1)), (0, .ref h), (1, .ref hm), (2, .int d), (3, .int k)]) hx hb dX2_choose_1 hl (by decide) rfl (fun ls hl => ?_)
  refine lv_iconst (v := 0) hx hb dX2_choose_3 (by decide) ?_
  refine lv_istore (lv' := [(5, .int 0), (4, .int (-1)), (0, .ref h), (1, .ref hm), (2, .int d), (3, .int k)]) hx hb dX2_choose_4 hl (by decide) rfl (fun ls hl => ?_)
  have loop6 : ∀ (fuel : Nat) (a : Int32) (j : Int32), mv_size.toInt - j.toInt < (fuel : Int) → (0 ≤ j.toInt) → (j.toInt ≤ mv_size.toInt) → (a.toInt = -1 ∨ (0 ≤ a.toInt ∧ a.toInt < mv_size.toInt)) → ∀ ls : Array Slot, lv_has ls 7 [(5, .int j), (4, .int a), (0, .ref h), (1, .ref hm), (2, .int d), (3, .int k)] → W p l e ({ frames := 4, cells := 0, slots := 0, locals := 89 } : Room) s m args below meth c s.heap [] 0 0 Q (F0 m 6 ls []) := by
    intro fuel
    induction fuel with
    | zero =>
      intro a j hmu hj0 hj1 ha ls hl
      exfalso; omega
    | succ fuel ih6 =>
      intro a j hmu hj0 hj1 ha ls hl
      refine lv_iload hx hb dX2_choose_6 (lv_at hl 0 rfl) ?_
      refine lv_aload_n hx hb dX2_choose_8 rfl (lv_at hl 3 rfl) ?_
      have hPc := hP.sub (ws' := [(hm, .inr (5, [.ref ma_priests, .ref ma_barred, .ref ma_cameOn, .ref ma_absent, .ref ma_absentFrom, .ref ma_absentTo, .int mv_size, .int mv_rows]))]) [4] rfl
      refine roV (As := []) (rest := [.int j]) S (k_size  ) (cwV 0 hts gX2_choose_X5_size rfl rfl rfl ⟨rfl, hd_X5_size⟩ ⟨Nat.le_of_ble_eq_true rfl, Nat.le_of_ble_eq_true rfl⟩) hK hPc (va_recv hK.1 hPc (ci := 5) (q0 := 0) rfl rfl) rfl hl.1 rfl (Nat.le_of_ble_eq_true rfl) dX2_choose_9 ⟨Nat.le_of_ble_eq_true rfl, Nat.le_of_ble_eq_true rfl⟩ (fun r_1 hw_1 => ?_)
      have hw_1 : r_1 = mv_size := hw_1
      have hw_1 := t_eq hw_1
      refine lv_icmp_ge (tgt := 90) hx hb dX2_choose_12 (by decide) (fun c_2 => ?_) (fun c_2 => ?_)
      · have tc_2 := t_le c_2
        refine lv_iload hx hb dX2_choose_90 (lv_at hl 1 rfl) ?_
        exact hret a _ _ (show a.toInt = -1 ∨ (0 ≤ a.toInt ∧ a.toInt < mv_size.toInt) from by omega) rfl dX2_choose_92
      · have tc_2 := t_nle c_2
        refine lv_iload hx hb dX2_choose_15 (lv_at hl 1 rfl) ?_
        refine lv_iconst (v := (-1)) hx hb dX2_choose_17 (by decide) ?_
        refine lv_icmp_eq (tgt := 38) hx hb dX2_choose_18 (by decide) (fun c_3 => ?_) (fun c_3 => ?_)
        · have tc_3 := t_eq c_3
          refine lv_iconst (v := 1) hx hb dX2_choose_38 (by decide) ?_
          refine lv_goto (tgt := 43) hx hb dX2_choose_39 (by decide) ?_
          refine lv_istore (lv' := [(6, .int 1), (5, .int j), (4, .int a), (0, .ref h), (1, .ref hm), (2, .int d), (3, .int k)]) hx hb dX2_choose_43 hl (by decide) rfl (fun ls hl => ?_)
          refine lv_iload hx hb dX2_choose_45 (lv_at hl 0 rfl) ?_
          refine lv_if_eq (tgt := 84) hx hb dX2_choose_47 (by decide) (fun c_4 => ?_) (fun c_4 => ?_)
          · exact absurd c_4 (by decide)
          · have tc_4 := t_neq c_4
            refine lv_aload_n hx hb dX2_choose_50 rfl (lv_at hl 4 rfl) ?_
            refine lv_iload hx hb dX2_choose_51 (lv_at hl 1 rfl) ?_
            refine lv_iload_n hx hb dX2_choose_53 rfl (lv_at hl 6 rfl) ?_
            have hPc := hP.sub (ws' := [(hm, .inr (5, [.ref ma_priests, .ref ma_barred, .ref ma_cameOn, .ref ma_absent, .ref ma_absentFrom, .ref ma_absentTo, .int mv_size, .int mv_rows])), (ma_barred, .inl (cI, 24, .inl mf_barred))]) [4, 5] rfl
            refine roV (As := [.int j, .int k]) (rest := []) S (k_isBarred  (by omega) (by omega)) (cwV 2 hts gX2_choose_X5_isBarred rfl rfl rfl ⟨rfl, hd_X5_isBarred⟩ ⟨Nat.le_of_ble_eq_true rfl, Nat.le_of_ble_eq_true rfl⟩) hK hPc (va_recv hK.1 hPc (ci := 5) (q0 := 0) rfl rfl) rfl hl.1 rfl (Nat.le_of_ble_eq_true rfl) dX2_choose_54 ⟨Nat.le_of_ble_eq_true rfl, Nat.le_of_ble_eq_true rfl⟩ (fun r_5 hw_5 => ?_)
            have hw_5 : (r_5.toInt = 0 ∨ r_5.toInt = 1) := hw_5
            refine lv_if_ne (tgt := 84) hx hb dX2_choose_57 (by decide) (fun c_6 => ?_) (fun c_6 => ?_)
            · have tc_6 := t_neq c_6
              obtain ⟨x_7, ex_7⟩ : ∃ y : Int32, y = j + 1 := ⟨_, rfl⟩
              refine lv_iinc (v := x_7) (lv' := [(5, .int x_7), (6, .int 1), (4, .int a), (0, .ref h), (1, .ref hm), (2, .int d), (3, .int k)]) hx hb dX2_choose_84 hl (k := 1) rfl (by rw [ex_7]; rfl) (by decide) rfl (fun ls hl => ?_)
              first | have tx_7 := t_add ex_7 (by omega) (by omega) | skip
              refine lv_goto (tgt := 6) hx hb dX2_choose_87 (by decide) ?_
              exact ih6 a x_7 (by omega) (by omega) (by omega) (by omega) ls (lv_sub hl [0, 2, 3, 4, 5, 6] rfl)
            · have tc_6 := t_eq c_6
              refine lv_aload_n hx hb dX2_choose_60 rfl (lv_at hl 3 rfl) ?_
              refine lv_iload hx hb dX2_choose_61 (lv_at hl 1 rfl) ?_
              refine lv_iload_n hx hb dX2_choose_63 rfl (lv_at hl 5 rfl) ?_
              have hPc := hP.sub (ws' := [(h, .inr (2, [.ref a_holders, .ref a_taken])), (a_holders, .inr (1, [.int 4, .ref ac])), (ac, .inl (cI, L, .inl fc))]) [0, 1, 2] rfl
              refine roV (As := [.int j, .int d]) (rest := []) S (u_isFree  (by omega)) (cwV 2 hts gX2_choose_X2_isFree rfl rfl rfl ⟨rfl, hd_X2_isFree⟩ ⟨Nat.le_of_ble_eq_true rfl, Nat.le_of_ble_eq_true rfl⟩) hK hPc (va_recv hK.1 hPc (ci := 2) (q0 := 0) rfl rfl) rfl hl.1 rfl (Nat.le_of_ble_eq_true rfl) dX2_choose_64 ⟨Nat.le_of_ble_eq_true rfl, Nat.le_of_ble_eq_true rfl⟩ (fun r_8 hw_8 => ?_)
              have hw_8 : (r_8.toInt = 0 ∨ r_8.toInt = 1) := hw_8
              refine lv_if_eq (tgt := 84) hx hb dX2_choose_67 (by decide) (fun c_9 => ?_) (fun c_9 => ?_)
              · have tc_9 := t_eq c_9
                obtain ⟨x_10, ex_10⟩ : ∃ y : Int32, y = j + 1 := ⟨_, rfl⟩
                refine lv_iinc (v := x_10) (lv' := [(5, .int x_10), (6, .int 1), (4, .int a), (0, .ref h), (1, .ref hm), (2, .int d), (3, .int k)]) hx hb dX2_choose_84 hl (k := 1) rfl (by rw [ex_10]; rfl) (by decide) rfl (fun ls hl => ?_)
                first | have tx_10 := t_add ex_10 (by omega) (by omega) | skip
                refine lv_goto (tgt := 6) hx hb dX2_choose_87 (by decide) ?_
                exact ih6 a x_10 (by omega) (by omega) (by omega) (by omega) ls (lv_sub hl [0, 2, 3, 4, 5, 6] rfl)
              · have tc_9 := t_neq c_9
                refine lv_aload_n hx hb dX2_choose_70 rfl (lv_at hl 4 rfl) ?_
                refine lv_iload hx hb dX2_choose_71 (lv_at hl 1 rfl) ?_
                refine lv_iload_n hx hb dX2_choose_73 rfl (lv_at hl 5 rfl) ?_
                have hPc := hP.sub (ws' := [(hm, .inr (5, [.ref ma_priests, .ref ma_barred, .ref ma_cameOn, .ref ma_absent, .ref ma_absentFrom, .ref ma_absentTo, .int mv_size, .int mv_rows])), (ma_cameOn, .inl (cI, 24, .inl mf_cameOn)), (ma_absent, .inl (cI, 60, .inl mf_absent)), (ma_absentFrom, .inl (cI, 60, .inl mf_absentFrom)), (ma_absentTo, .inl (cI, 60, .inl mf_absentTo))]) [4, 6, 7, 8, 9] rfl
                refine roV (As := [.int j, .int d]) (rest := []) S (k_isAble  (by omega) (by omega) (by omega) (by omega)) (cwV 2 hts gX2_choose_X5_isAble rfl rfl rfl ⟨rfl, hd_X5_isAble⟩ ⟨Nat.le_of_ble_eq_true rfl, Nat.le_of_ble_eq_true rfl⟩) hK hPc (va_recv hK.1 hPc (ci := 5) (q0 := 0) rfl rfl) rfl hl.1 rfl (Nat.le_of_ble_eq_true rfl) dX2_choose_74 ⟨Nat.le_of_ble_eq_true rfl, Nat.le_of_ble_eq_true rfl⟩ (fun r_11 hw_11 => ?_)
                have hw_11 : (r_11.toInt = 0 ∨ r_11.toInt = 1) := hw_11
                refine lv_if_eq (tgt := 84) hx hb dX2_choose_77 (by decide) (fun c_12 => ?_) (fun c_12 => ?_)
                · have tc_12 := t_eq c_12
                  obtain ⟨x_13, ex_13⟩ : ∃ y : Int32, y = j + 1 := ⟨_, rfl⟩
                  refine lv_iinc (v := x_13) (lv' := [(5, .int x_13), (6, .int 1), (4, .int a), (0, .ref h), (1, .ref hm), (2, .int d), (3, .int k)]) hx hb dX2_choose_84 hl (k := 1) rfl (by rw [ex_13]; rfl) (by decide) rfl (fun ls hl => ?_)
                  first | have tx_13 := t_add ex_13 (by omega) (by omega) | skip
                  refine lv_goto (tgt := 6) hx hb dX2_choose_87 (by decide) ?_
                  exact ih6 a x_13 (by omega) (by omega) (by omega) (by omega) ls (lv_sub hl [0, 2, 3, 4, 5, 6] rfl)
                · have tc_12 := t_neq c_12
                  refine lv_iload hx hb dX2_choose_80 (lv_at hl 1 rfl) ?_
                  refine lv_istore (lv' := [(4, .int j), (6, .int 1), (5, .int j), (0, .ref h), (1, .ref hm), (2, .int d), (3, .int k)]) hx hb dX2_choose_82 hl (by decide) rfl (fun ls hl => ?_)
                  obtain ⟨x_14, ex_14⟩ : ∃ y : Int32, y = j + 1 := ⟨_, rfl⟩
                  refine lv_iinc (v := x_14) (lv' := [(5, .int x_14), (4, .int j), (6, .int 1), (0, .ref h), (1, .ref hm), (2, .int d), (3, .int k)]) hx hb dX2_choose_84 hl (k := 2) rfl (by rw [ex_14]; rfl) (by decide) rfl (fun ls hl => ?_)
                  first | have tx_14 := t_add ex_14 (by omega) (by omega) | skip
                  refine lv_goto (tgt := 6) hx hb dX2_choose_87 (by decide) ?_
                  exact ih6 j x_14 (by omega) (by omega) (by omega) (by omega) ls (lv_sub hl [0, 1, 3, 4, 5, 6] rfl)
        · have tc_3 := t_neq c_3
          refine lv_aload_n hx hb dX2_choose_21 rfl (lv_at hl 2 rfl) ?_
          refine lv_iload hx hb dX2_choose_22 (lv_at hl 0 rfl) ?_
          refine lv_iload_n hx hb dX2_choose_24 rfl (lv_at hl 5 rfl) ?_
          have hPc := hP.sub (ws' := [(h, .inr (2, [.ref a_holders, .ref a_taken])), (a_taken, .inl (cI, 96, .inl ft))]) [0, 3] rfl
          refine roV (As := [.int j, .int k]) (rest := []) S (u_taken  (by omega) (by omega) (by omega) (by omega)) (cwV 2 hts gX2_choose_X2_turnsTaken rfl rfl rfl ⟨rfl, hd_X2_turnsTaken⟩ ⟨Nat.le_of_ble_eq_true rfl, Nat.le_of_ble_eq_true rfl⟩) hK hPc (va_recv hK.1 hPc (ci := 2) (q0 := 0) rfl rfl) rfl hl.1 rfl (Nat.le_of_ble_eq_true rfl) dX2_choose_25 ⟨Nat.le_of_ble_eq_true rfl, Nat.le_of_ble_eq_true rfl⟩ (fun r_15 hw_15 => ?_)
          have hw_15 : True := hw_15
          refine lv_aload_n hx hb dX2_choose_28 rfl (lv_at hl 2 rfl) ?_
          refine lv_iload hx hb dX2_choose_29 (lv_at hl 1 rfl) ?_
          refine lv_iload_n hx hb dX2_choose_31 rfl (lv_at hl 5 rfl) ?_
          have hPc := hP.sub (ws' := [(h, .inr (2, [.ref a_holders, .ref a_taken])), (a_taken, .inl (cI, 96, .inl ft))]) [0, 3] rfl
          refine roV (As := [.int a, .int k]) (rest := [.int r_15]) S (u_taken  (by omega) (by omega) (by omega) (by omega)) (cwV 2 hts gX2_choose_X2_turnsTaken rfl rfl rfl ⟨rfl, hd_X2_turnsTaken⟩ ⟨Nat.le_of_ble_eq_true rfl, Nat.le_of_ble_eq_true rfl⟩) hK hPc (va_recv hK.1 hPc (ci := 2) (q0 := 0) rfl rfl) rfl hl.1 rfl (Nat.le_of_ble_eq_true rfl) dX2_choose_32 ⟨Nat.le_of_ble_eq_true rfl, Nat.le_of_ble_eq_true rfl⟩ (fun r_16 hw_16 => ?_)
          have hw_16 : True := hw_16
          refine lv_icmp_ge (tgt := 42) hx hb dX2_choose_35 (by decide) (fun c_17 => ?_) (fun c_17 => ?_)
          · have tc_17 := t_le c_17
            refine lv_iconst (v := 0) hx hb dX2_choose_42 (by decide) ?_
            refine lv_istore (lv' := [(6, .int 0), (5, .int j), (4, .int a), (0, .ref h), (1, .ref hm), (2, .int d), (3, .int k)]) hx hb dX2_choose_43 hl (by decide) rfl (fun ls hl => ?_)
            refine lv_iload hx hb dX2_choose_45 (lv_at hl 0 rfl) ?_
            refine lv_if_eq (tgt := 84) hx hb dX2_choose_47 (by decide) (fun c_18 => ?_) (fun c_18 => ?_)
            · have tc_18 := t_eq c_18
              obtain ⟨x_19, ex_19⟩ : ∃ y : Int32, y = j + 1 := ⟨_, rfl⟩
              refine lv_iinc (v := x_19) (lv' := [(5, .int x_19), (6, .int 0), (4, .int a), (0, .ref h), (1, .ref hm), (2, .int d), (3, .int k)]) hx hb dX2_choose_84 hl (k := 1) rfl (by rw [ex_19]; rfl) (by decide) rfl (fun ls hl => ?_)
              first | have tx_19 := t_add ex_19 (by omega) (by omega) | skip
              refine lv_goto (tgt := 6) hx hb dX2_choose_87 (by decide) ?_
              exact ih6 a x_19 (by omega) (by omega) (by omega) (by omega) ls (lv_sub hl [0, 2, 3, 4, 5, 6] rfl)
            · exact absurd c_18 (by decide)
          · have tc_17 := t_nle c_17
            refine lv_iconst (v := 1) hx hb dX2_choose_38 (by decide) ?_
            refine lv_goto (tgt := 43) hx hb dX2_choose_39 (by decide) ?_
            refine lv_istore (lv' := [(6, .int 1), (5, .int j), (4, .int a), (0, .ref h), (1, .ref hm), (2, .int d), (3, .int k)]) hx hb dX2_choose_43 hl (by decide) rfl (fun ls hl => ?_)
            refine lv_iload hx hb dX2_choose_45 (lv_at hl 0 rfl) ?_
            refine lv_if_eq (tgt := 84) hx hb dX2_choose_47 (by decide) (fun c_20 => ?_) (fun c_20 => ?_)
            · exact absurd c_20 (by decide)
            · have tc_20 := t_neq c_20
              refine lv_aload_n hx hb dX2_choose_50 rfl (lv_at hl 4 rfl) ?_
              refine lv_iload hx hb dX2_choose_51 (lv_at hl 1 rfl) ?_
              refine lv_iload_n hx hb dX2_choose_53 rfl (lv_at hl 6 rfl) ?_
              have hPc := hP.sub (ws' := [(hm, .inr (5, [.ref ma_priests, .ref ma_barred, .ref ma_cameOn, .ref ma_absent, .ref ma_absentFrom, .ref ma_absentTo, .int mv_size, .int mv_rows])), (ma_barred, .inl (cI, 24, .inl mf_barred))]) [4, 5] rfl
              refine roV (As := [.int j, .int k]) (rest := []) S (k_isBarred  (by omega) (by omega)) (cwV 2 hts gX2_choose_X5_isBarred rfl rfl rfl ⟨rfl, hd_X5_isBarred⟩ ⟨Nat.le_of_ble_eq_true rfl, Nat.le_of_ble_eq_true rfl⟩) hK hPc (va_recv hK.1 hPc (ci := 5) (q0 := 0) rfl rfl) rfl hl.1 rfl (Nat.le_of_ble_eq_true rfl) dX2_choose_54 ⟨Nat.le_of_ble_eq_true rfl, Nat.le_of_ble_eq_true rfl⟩ (fun r_21 hw_21 => ?_)
              have hw_21 : (r_21.toInt = 0 ∨ r_21.toInt = 1) := hw_21
              refine lv_if_ne (tgt := 84) hx hb dX2_choose_57 (by decide) (fun c_22 => ?_) (fun c_22 => ?_)
              · have tc_22 := t_neq c_22
                obtain ⟨x_23, ex_23⟩ : ∃ y : Int32, y = j + 1 := ⟨_, rfl⟩
                refine lv_iinc (v := x_23) (lv' := [(5, .int x_23), (6, .int 1), (4, .int a), (0, .ref h), (1, .ref hm), (2, .int d), (3, .int k)]) hx hb dX2_choose_84 hl (k := 1) rfl (by rw [ex_23]; rfl) (by decide) rfl (fun ls hl => ?_)
                first | have tx_23 := t_add ex_23 (by omega) (by omega) | skip
                refine lv_goto (tgt := 6) hx hb dX2_choose_87 (by decide) ?_
                exact ih6 a x_23 (by omega) (by omega) (by omega) (by omega) ls (lv_sub hl [0, 2, 3, 4, 5, 6] rfl)
              · have tc_22 := t_eq c_22
                refine lv_aload_n hx hb dX2_choose_60 rfl (lv_at hl 3 rfl) ?_
                refine lv_iload hx hb dX2_choose_61 (lv_at hl 1 rfl) ?_
                refine lv_iload_n hx hb dX2_choose_63 rfl (lv_at hl 5 rfl) ?_
                have hPc := hP.sub (ws' := [(h, .inr (2, [.ref a_holders, .ref a_taken])), (a_holders, .inr (1, [.int 4, .ref ac])), (ac, .inl (cI, L, .inl fc))]) [0, 1, 2] rfl
                refine roV (As := [.int j, .int d]) (rest := []) S (u_isFree  (by omega)) (cwV 2 hts gX2_choose_X2_isFree rfl rfl rfl ⟨rfl, hd_X2_isFree⟩ ⟨Nat.le_of_ble_eq_true rfl, Nat.le_of_ble_eq_true rfl⟩) hK hPc (va_recv hK.1 hPc (ci := 2) (q0 := 0) rfl rfl) rfl hl.1 rfl (Nat.le_of_ble_eq_true rfl) dX2_choose_64 ⟨Nat.le_of_ble_eq_true rfl, Nat.le_of_ble_eq_true rfl⟩ (fun r_24 hw_24 => ?_)
                have hw_24 : (r_24.toInt = 0 ∨ r_24.toInt = 1) := hw_24
                refine lv_if_eq (tgt := 84) hx hb dX2_choose_67 (by decide) (fun c_25 => ?_) (fun c_25 => ?_)
                · have tc_25 := t_eq c_25
                  obtain ⟨x_26, ex_26⟩ : ∃ y : Int32, y = j + 1 := ⟨_, rfl⟩
                  refine lv_iinc (v := x_26) (lv' := [(5, .int x_26), (6, .int 1), (4, .int a), (0, .ref h), (1, .ref hm), (2, .int d), (3, .int k)]) hx hb dX2_choose_84 hl (k := 1) rfl (by rw [ex_26]; rfl) (by decide) rfl (fun ls hl => ?_)
                  first | have tx_26 := t_add ex_26 (by omega) (by omega) | skip
                  refine lv_goto (tgt := 6) hx hb dX2_choose_87 (by decide) ?_
                  exact ih6 a x_26 (by omega) (by omega) (by omega) (by omega) ls (lv_sub hl [0, 2, 3, 4, 5, 6] rfl)
                · have tc_25 := t_neq c_25
                  refine lv_aload_n hx hb dX2_choose_70 rfl (lv_at hl 4 rfl) ?_
                  refine lv_iload hx hb dX2_choose_71 (lv_at hl 1 rfl) ?_
                  refine lv_iload_n hx hb dX2_choose_73 rfl (lv_at hl 5 rfl) ?_
                  have hPc := hP.sub (ws' := [(hm, .inr (5, [.ref ma_priests, .ref ma_barred, .ref ma_cameOn, .ref ma_absent, .ref ma_absentFrom, .ref ma_absentTo, .int mv_size, .int mv_rows])), (ma_cameOn, .inl (cI, 24, .inl mf_cameOn)), (ma_absent, .inl (cI, 60, .inl mf_absent)), (ma_absentFrom, .inl (cI, 60, .inl mf_absentFrom)), (ma_absentTo, .inl (cI, 60, .inl mf_absentTo))]) [4, 6, 7, 8, 9] rfl
                  refine roV (As := [.int j, .int d]) (rest := []) S (k_isAble  (by omega) (by omega) (by omega) (by omega)) (cwV 2 hts gX2_choose_X5_isAble rfl rfl rfl ⟨rfl, hd_X5_isAble⟩ ⟨Nat.le_of_ble_eq_true rfl, Nat.le_of_ble_eq_true rfl⟩) hK hPc (va_recv hK.1 hPc (ci := 5) (q0 := 0) rfl rfl) rfl hl.1 rfl (Nat.le_of_ble_eq_true rfl) dX2_choose_74 ⟨Nat.le_of_ble_eq_true rfl, Nat.le_of_ble_eq_true rfl⟩ (fun r_27 hw_27 => ?_)
                  have hw_27 : (r_27.toInt = 0 ∨ r_27.toInt = 1) := hw_27
                  refine lv_if_eq (tgt := 84) hx hb dX2_choose_77 (by decide) (fun c_28 => ?_) (fun c_28 => ?_)
                  · have tc_28 := t_eq c_28
                    obtain ⟨x_29, ex_29⟩ : ∃ y : Int32, y = j + 1 := ⟨_, rfl⟩
                    refine lv_iinc (v := x_29) (lv' := [(5, .int x_29), (6, .int 1), (4, .int a), (0, .ref h), (1, .ref hm), (2, .int d), (3, .int k)]) hx hb dX2_choose_84 hl (k := 1) rfl (by rw [ex_29]; rfl) (by decide) rfl (fun ls hl => ?_)
                    first | have tx_29 := t_add ex_29 (by omega) (by omega) | skip
                    refine lv_goto (tgt := 6) hx hb dX2_choose_87 (by decide) ?_
                    exact ih6 a x_29 (by omega) (by omega) (by omega) (by omega) ls (lv_sub hl [0, 2, 3, 4, 5, 6] rfl)
                  · have tc_28 := t_neq c_28
                    refine lv_iload hx hb dX2_choose_80 (lv_at hl 1 rfl) ?_
                    refine lv_istore (lv' := [(4, .int j), (6, .int 1), (5, .int j), (0, .ref h), (1, .ref hm), (2, .int d), (3, .int k)]) hx hb dX2_choose_82 hl (by decide) rfl (fun ls hl => ?_)
                    obtain ⟨x_30, ex_30⟩ : ∃ y : Int32, y = j + 1 := ⟨_, rfl⟩
                    refine lv_iinc (v := x_30) (lv' := [(5, .int x_30), (4, .int j), (6, .int 1), (0, .ref h), (1, .ref hm), (2, .int d), (3, .int k)]) hx hb dX2_choose_84 hl (k := 2) rfl (by rw [ex_30]; rfl) (by decide) rfl (fun ls hl => ?_)
                    first | have tx_30 := t_add ex_30 (by omega) (by omega) | skip
                    refine lv_goto (tgt := 6) hx hb dX2_choose_87 (by decide) ?_
                    exact ih6 j x_30 (by omega) (by omega) (by omega) (by omega) ls (lv_sub hl [0, 1, 3, 4, 5, 6] rfl)
  exact loop6 ((mv_size.toInt - (0 : Int32).toInt).toNat + 1) (-1) 0 (by omega) (by omega) (by omega) (by omega) ls (lv_sub hl [0, 1, 2, 3, 4, 5] rfl)

