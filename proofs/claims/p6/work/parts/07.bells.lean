theorem in_b_rowOf_X0 : ∀ w ∈ wsX00, w ∈ wsX0_rowOf := tl_X0_rowOf_X0
set_option maxHeartbeats 8000000 in
set_option maxRecDepth 100000 in
theorem b_rowOf {l : Launch} {D : va_G} {cI cZ cB : ClassId} {h ad ao ay : Nat} {n : Int32} {fd fo fy : Nat → Int32} {d k : Int32} (hn0 : 0 ≤ n.toInt) (hn1 : n.toInt ≤ 100) : Met l yX0_rowOf wsX0_rowOf ({ frames := 0, cells := 0, slots := 0, locals := 0 }) (RO D cI cZ cB [.ref h, .int d, .int k] [(h, .inr (0, [.ref ad, .ref ao, .ref ay, .int n])), (ad, .inl (cI, 100, .inl fd)), (ao, .inl (cI, 100, .inl fo)), (ay, .inl (cI, 100, .inl fy))]) (vp_Si (fun r : Int32 => (r.toInt = -1) ∨ (0 ≤ r.toInt ∧ r.toInt < n.toInt))) 0 0 (fun _ => False) := by
  refine ro_ret (cc := cX0_rowOf) (maxL := 4) (ty := .int) (own := RX0) (by decide) rfl rfl (Nat.le_of_ble_eq_true rfl) ?_
  intro p e s m args below meth c Q S hret hP hK ls hl
  obtain ⟨hx, hb, hml, hown, hts⟩ := id S
  have hl : lv_has ls 4 [(0, .ref h), (1, .int d), (2, .int k)] := hl
  have kkm1 : (-1 : Int32).toInt = -1 := by decide
  have kk0 : (0 : Int32).toInt = 0 := by decide
  have kk1 : (1 : Int32).toInt = 1 := by decide
  have lk0 := hts (.fieldLink RX0 30 "AbbeyHours$Bells" "size" "I") (List.mem_cons_of_mem _ (List.mem_append_left _ (List.mem_of_getElem? (i := 0) rfl)))
  have lk1 := hts (.fieldLink RX0 11 "AbbeyHours$Bells" "days" "[I") (List.mem_cons_of_mem _ (List.mem_append_left _ (List.mem_of_getElem? (i := 1) rfl)))
  have lk2 := hts (.fieldLink RX0 15 "AbbeyHours$Bells" "offices" "[I") (List.mem_cons_of_mem _ (List.mem_append_left _ (List.mem_of_getElem? (i := 2) rfl)))
  refine lv_iconst (v := 0) hx hb dX0_rowOf_0 (by decide) ?_
  refine lv_istore_n (lv' := [(3, .int 0), (0, .ref h), (1, .int d), (2, .int k)]) hx hb dX0_rowOf_1 rfl hl (by decide) rfl (fun ls hl => ?_)
  have loop2 : ∀ (fuel : Nat) (i : Int32), n.toInt - i.toInt < (fuel : Int) → (0 ≤ i.toInt) → (i.toInt ≤ n.toInt) → ∀ ls : Array Slot, lv_has ls 4 [(3, .int i), (0, .ref h), (1, .int d), (2, .int k)] → W p l e ({ frames := 0, cells := 0, slots := 0, locals := 0 } : Room) s m args below meth c s.heap [] 0 0 Q (F0 m 2 ls []) := by
    intro fuel
    induction fuel with
    | zero =>
      intro i hmu hi0 hi1 ls hl
      exfalso; omega
    | succ fuel ih2 =>
      intro i hmu hi0 hi1 ls hl
      refine lv_iload_n hx hb dX0_rowOf_2 rfl (lv_at hl 0 rfl) ?_
      refine lv_aload_n hx hb dX0_rowOf_3 rfl (lv_at hl 1 rfl) ?_
      refine va_get (D := D) (ci := 0) (v := .int n) (C := RX0) (T := TX0) (N := 4) hx hb hts in_b_rowOf_X0 hown hK.1 hP 0 rfl rfl 3 (by decide) lk0 (fun _ h9 => h9) rfl dX0_rowOf_4 ?_
      refine lv_icmp_ge (tgt := 38) hx hb dX0_rowOf_7 (by decide) (fun c_1 => ?_) (fun c_1 => ?_)
      · have tc_1 := t_le c_1
        refine lv_iconst (v := (-1)) hx hb dX0_rowOf_38 (by decide) ?_
        exact hret (-1) _ _ (show ((-1 : Int32).toInt = -1) ∨ (0 ≤ (-1 : Int32).toInt ∧ (-1 : Int32).toInt < n.toInt) from by omega) rfl dX0_rowOf_39
      · have tc_1 := t_nle c_1
        refine lv_aload_n hx hb dX0_rowOf_10 rfl (lv_at hl 1 rfl) ?_
        refine va_get (D := D) (ci := 0) (v := .ref ad) (C := RX0) (T := TX0) (N := 4) hx hb hts in_b_rowOf_X0 hown hK.1 hP 0 rfl rfl 0 (by decide) lk1 (fun _ h9 => h9) rfl dX0_rowOf_11 ?_
        refine lv_iload_n hx hb dX0_rowOf_14 rfl (lv_at hl 0 rfl) ?_
        refine va_iald hx hb hK.1 hP 1 0 rfl rfl (t_in (by omega) (by omega)) dX0_rowOf_15 ?_
        refine lv_topi (fun y_2 ey_2 => ?_)
        refine lv_iload_n hx hb dX0_rowOf_16 rfl (lv_at hl 2 rfl) ?_
        refine lv_icmp_ne (tgt := 32) hx hb dX0_rowOf_17 (by decide) (fun c_3 => ?_) (fun c_3 => ?_)
        · have tc_3 := t_neq c_3
          obtain ⟨x_4, ex_4⟩ : ∃ y : Int32, y = i + 1 := ⟨_, rfl⟩
          refine lv_iinc (v := x_4) (lv' := [(3, .int x_4), (0, .ref h), (1, .int d), (2, .int k)]) hx hb dX0_rowOf_32 hl (k := 0) rfl (by rw [ex_4]; rfl) (by decide) rfl (fun ls hl => ?_)
          first | have tx_4 := t_add ex_4 (by omega) (by omega) | skip
          refine lv_goto (tgt := 2) hx hb dX0_rowOf_35 (by decide) ?_
          exact ih2 x_4 (by omega) (by omega) (by omega) ls (lv_sub hl [0, 1, 2, 3] rfl)
        · have tc_3 := t_eq c_3
          refine lv_aload_n hx hb dX0_rowOf_20 rfl (lv_at hl 1 rfl) ?_
          refine va_get (D := D) (ci := 0) (v := .ref ao) (C := RX0) (T := TX0) (N := 4) hx hb hts in_b_rowOf_X0 hown hK.1 hP 0 rfl rfl 1 (by decide) lk2 (fun _ h9 => h9) rfl dX0_rowOf_21 ?_
          refine lv_iload_n hx hb dX0_rowOf_24 rfl (lv_at hl 0 rfl) ?_
          refine va_iald hx hb hK.1 hP 2 0 rfl rfl (t_in (by omega) (by omega)) dX0_rowOf_25 ?_
          refine lv_topi (fun y_5 ey_5 => ?_)
          refine lv_iload_n hx hb dX0_rowOf_26 rfl (lv_at hl 3 rfl) ?_
          refine lv_icmp_ne (tgt := 32) hx hb dX0_rowOf_27 (by decide) (fun c_6 => ?_) (fun c_6 => ?_)
          · have tc_6 := t_neq c_6
            obtain ⟨x_7, ex_7⟩ : ∃ y : Int32, y = i + 1 := ⟨_, rfl⟩
            refine lv_iinc (v := x_7) (lv' := [(3, .int x_7), (0, .ref h), (1, .int d), (2, .int k)]) hx hb dX0_rowOf_32 hl (k := 0) rfl (by rw [ex_7]; rfl) (by decide) rfl (fun ls hl => ?_)
            first | have tx_7 := t_add ex_7 (by omega) (by omega) | skip
            refine lv_goto (tgt := 2) hx hb dX0_rowOf_35 (by decide) ?_
            exact ih2 x_7 (by omega) (by omega) (by omega) ls (lv_sub hl [0, 1, 2, 3] rfl)
          · have tc_6 := t_eq c_6
            refine lv_iload_n hx hb dX0_rowOf_30 rfl (lv_at hl 0 rfl) ?_
            exact hret i _ _ (show (i.toInt = -1) ∨ (0 ≤ i.toInt ∧ i.toInt < n.toInt) from by omega) rfl dX0_rowOf_31
  exact loop2 ((n.toInt - (0 : Int32).toInt).toNat + 1) 0 (by omega) (by omega) (by omega) ls (lv_sub hl [0, 1, 2, 3] rfl)

theorem in_b_startOf_X0 : ∀ w ∈ wsX00, w ∈ wsX0_startOf := tl_X0_startOf_X0
set_option maxHeartbeats 8000000 in
set_option maxRecDepth 100000 in
theorem b_startOf {l : Launch} {D : va_G} {cI cZ cB : ClassId} {h ad ao ay : Nat} {n : Int32} {fd fo fy : Nat → Int32} {d k : Int32} (hn0 : 0 ≤ n.toInt) (hn1 : n.toInt ≤ 100) : Met l yX0_startOf wsX0_startOf ({ frames := 3, cells := 0, slots := 0, locals := 65 }) (RO D cI cZ cB [.ref h, .int d, .int k] [(h, .inr (0, [.ref ad, .ref ao, .ref ay, .int n])), (ad, .inl (cI, 100, .inl fd)), (ao, .inl (cI, 100, .inl fo)), (ay, .inl (cI, 100, .inl fy))]) (vp_Si (fun r : Int32 => n.toInt = 0 → r = sunB (rem365 d) k)) 0 0 (fun _ => False) := by
  refine ro_ret (cc := cX0_startOf) (maxL := 4) (ty := .int) (own := RX0) (by decide) rfl rfl (Nat.le_of_ble_eq_true rfl) ?_
  intro p e s m args below meth c Q S hret hP hK ls hl
  obtain ⟨hx, hb, hml, hown, hts⟩ := id S
  have hl : lv_has ls 4 [(0, .ref h), (1, .int d), (2, .int k)] := hl
  have kkm1 : (-1 : Int32).toInt = -1 := by decide
  have kk0 : (0 : Int32).toInt = 0 := by decide
  have kk365 : (365 : Int32).toInt = 365 := by decide
  have lk0 := hts (.fieldLink RX0 18 "AbbeyHours$Bells" "delays" "[I") (List.mem_cons_of_mem _ (List.mem_append_left _ (List.mem_of_getElem? (i := 0) rfl)))
  refine lv_aload_n hx hb dX0_startOf_0 rfl (lv_at hl 0 rfl) ?_
  refine lv_iload_n hx hb dX0_startOf_1 rfl (lv_at hl 1 rfl) ?_
  refine lv_iload_n hx hb dX0_startOf_2 rfl (lv_at hl 2 rfl) ?_
  have hPc := hP.sub (ws' := [(h, .inr (0, [.ref ad, .ref ao, .ref ay, .int n])), (ad, .inl (cI, 100, .inl fd)), (ao, .inl (cI, 100, .inl fo)), (ay, .inl (cI, 100, .inl fy))]) [0, 1, 2, 3] rfl
  refine roV (As := [.int d, .int k]) (rest := []) S (b_rowOf  (by omega) (by omega)) (cwV 2 hts gX0_startOf_X0_rowOf rfl rfl rfl ⟨rfl, hd_X0_rowOf⟩ ⟨Nat.le_of_ble_eq_true rfl, Nat.le_of_ble_eq_true rfl⟩) hK hPc (va_recv hK.1 hPc (ci := 0) (q0 := 0) rfl rfl) rfl hl.1 rfl (Nat.le_of_ble_eq_true rfl) dX0_startOf_3 ⟨Nat.le_of_ble_eq_true rfl, Nat.le_of_ble_eq_true rfl⟩ (fun r_1 hw_1 => ?_)
  have hw_1 : (r_1.toInt = -1) ∨ (0 ≤ r_1.toInt ∧ r_1.toInt < n.toInt) := hw_1
  refine lv_istore_n (lv' := [(3, .int r_1), (0, .ref h), (1, .int d), (2, .int k)]) hx hb dX0_startOf_6 rfl hl (by decide) rfl (fun ls hl => ?_)
  refine lv_iload_n hx hb dX0_startOf_7 rfl (lv_at hl 2 rfl) ?_
  refine lv_sipush (v := 365) hx hb dX0_startOf_8 (by decide) ?_
  refine lv_irem hx hb dX0_startOf_11 (by decide) ?_
  refine lv_topi (fun yr eyr => ?_)
  have eyr : yr = rem365 d := eyr
  refine lv_iload_n hx hb dX0_startOf_12 rfl (lv_at hl 3 rfl) ?_
  have hPc := hP.sub (ws' := []) [] rfl
  refine roS (As := [.int yr, .int k]) (rest := []) S (s_bell  ) (va_cwS 2 hts gX0_startOf_X8_bell rfl rfl rfl hd_X8_bell ⟨Nat.le_of_ble_eq_true rfl, Nat.le_of_ble_eq_true rfl⟩) hK hPc rfl hl.1 rfl (Nat.le_of_ble_eq_true rfl) dX0_startOf_13 ⟨Nat.le_of_ble_eq_true rfl, Nat.le_of_ble_eq_true rfl⟩ (fun r_rb hw_rb => ?_)
  have hw_rb : r_rb = sunB yr k := hw_rb
  rw [eyr] at hw_rb
  refine lv_iload_n hx hb dX0_startOf_16 rfl (lv_at hl 0 rfl) ?_
  refine lv_iconst (v := (-1)) hx hb dX0_startOf_17 (by decide) ?_
  refine lv_icmp_ne (tgt := 25) hx hb dX0_startOf_18 (by decide) (fun c_3 => ?_) (fun c_3 => ?_)
  · have tc_3 := t_neq c_3
    refine lv_aload_n hx hb dX0_startOf_25 rfl (lv_at hl 1 rfl) ?_
    refine va_get (D := D) (ci := 0) (v := .ref ay) (C := RX0) (T := TX0) (N := 4) hx hb hts in_b_startOf_X0 hown hK.1 hP 0 rfl rfl 2 (by decide) lk0 (fun _ h9 => h9) rfl dX0_startOf_26 ?_
    refine lv_iload_n hx hb dX0_startOf_29 rfl (lv_at hl 0 rfl) ?_
    refine va_iald hx hb hK.1 hP 3 0 rfl rfl (t_in (by omega) (by omega)) dX0_startOf_30 ?_
    refine lv_topi (fun y_4 ey_4 => ?_)
    refine lv_iadd hx hb dX0_startOf_31 ?_
    refine lv_topi (fun z ez => ?_)
    exact hret z _ _ (show n.toInt = 0 → z = sunB (rem365 d) k from by intro hn; first | (rw [ez, hw_rb]; exact Int32.add_zero _) | (exfalso; omega)) rfl dX0_startOf_32
  · have tc_3 := t_eq c_3
    refine lv_iconst (v := 0) hx hb dX0_startOf_21 (by decide) ?_
    refine lv_goto (tgt := 31) hx hb dX0_startOf_22 (by decide) ?_
    refine lv_iadd hx hb dX0_startOf_31 ?_
    refine lv_topi (fun z ez => ?_)
    exact hret z _ _ (show n.toInt = 0 → z = sunB (rem365 d) k from by intro hn; first | (rw [ez, hw_rb]; exact Int32.add_zero _) | (exfalso; omega)) rfl dX0_startOf_32

set_option maxHeartbeats 8000000 in
set_option maxRecDepth 100000 in
theorem b_keepsOrder {l : Launch} {D : va_G} {cI cZ cB : ClassId} {h ad ao ay : Nat} {n : Int32} {fd fo fy : Nat → Int32} {d k mi : Int32} (hn0 : 0 ≤ n.toInt) (hn1 : n.toInt ≤ 100) : Met l yX0_keepsOrder wsX0_keepsOrder ({ frames := 4, cells := 0, slots := 0, locals := 88 }) (RO D cI cZ cB [.ref h, .int d, .int k, .int mi] [(h, .inr (0, [.ref ad, .ref ao, .ref ay, .int n])), (ad, .inl (cI, 100, .inl fd)), (ao, .inl (cI, 100, .inl fo)), (ay, .inl (cI, 100, .inl fy))]) (vp_Si (fun r : Int32 => (n.toInt = 0 → (r.toInt = 1 ∧ ((k.toInt = 7 ∧ mi.toInt < 1410) ∨ (k.toInt ≠ 7 ∧ mi.toInt < (sunB (rem365 d) (k + 1)).toInt)) ∧ (k.toInt = 0 ∨ (sunB (rem365 d) (k - 1)).toInt < mi.toInt)) ∨ (r.toInt = 0 ∧ ¬ (((k.toInt = 7 ∧ mi.toInt < 1410) ∨ (k.toInt ≠ 7 ∧ mi.toInt < (sunB (rem365 d) (k + 1)).toInt)) ∧ (k.toInt = 0 ∨ (sunB (rem365 d) (k - 1)).toInt < mi.toInt)))) ∧ (r.toInt = 0 ∨ r.toInt = 1))) 0 0 (fun _ => False) := by
  refine ro_ret (cc := cX0_keepsOrder) (maxL := 5) (ty := .boolean) (own := RX0) (by decide) rfl rfl (Nat.le_of_ble_eq_true rfl) ?_
  intro p e s m args below meth c Q S hret hP hK ls hl
  obtain ⟨hx, hb, hml, hown, hts⟩ := id S
  have hl : lv_has ls 5 [(0, .ref h), (1, .int d), (2, .int k), (3, .int mi)] := hl
  have kk0 : (0 : Int32).toInt = 0 := by decide
  have kk1 : (1 : Int32).toInt = 1 := by decide
  have kk7 : (7 : Int32).toInt = 7 := by decide
  have kk1410 : (1410 : Int32).toInt = 1410 := by decide
  refine lv_iload_n hx hb dX0_keepsOrder_0 rfl (lv_at hl 2 rfl) ?_
  refine lv_bipush (v := 7) hx hb dX0_keepsOrder_1 (by decide) ?_
  refine lv_icmp_ne (tgt := 12) hx hb dX0_keepsOrder_3 (by decide) (fun c_1 => ?_) (fun c_1 => ?_)
  · have tc_1 := t_neq c_1
    refine lv_aload_n hx hb dX0_keepsOrder_12 rfl (lv_at hl 0 rfl) ?_
    refine lv_iload_n hx hb dX0_keepsOrder_13 rfl (lv_at hl 1 rfl) ?_
    refine lv_iload_n hx hb dX0_keepsOrder_14 rfl (lv_at hl 2 rfl) ?_
    refine lv_iconst (v := 1) hx hb dX0_keepsOrder_15 (by decide) ?_
    refine lv_iadd hx hb dX0_keepsOrder_16 ?_
    refine lv_topi (fun k1 ek1 => ?_)
    have hPc := hP.sub (ws' := [(h, .inr (0, [.ref ad, .ref ao, .ref ay, .int n])), (ad, .inl (cI, 100, .inl fd)), (ao, .inl (cI, 100, .inl fo)), (ay, .inl (cI, 100, .inl fy))]) [0, 1, 2, 3] rfl
    refine roV (As := [.int d, .int k1]) (rest := []) S (b_startOf  (by omega) (by omega)) (cwV 2 hts gX0_keepsOrder_X0_startOf rfl rfl rfl ⟨rfl, hd_X0_startOf⟩ ⟨Nat.le_of_ble_eq_true rfl, Nat.le_of_ble_eq_true rfl⟩) hK hPc (va_recv hK.1 hPc (ci := 0) (q0 := 0) rfl rfl) rfl hl.1 rfl (Nat.le_of_ble_eq_true rfl) dX0_keepsOrder_17 ⟨Nat.le_of_ble_eq_true rfl, Nat.le_of_ble_eq_true rfl⟩ (fun r_rn hw_rn => ?_)
    have hw_rn : n.toInt = 0 → r_rn = sunB (rem365 d) k1 := hw_rn
    rw [ek1] at hw_rn
    have hw_rn := fun q => t_eq (hw_rn q)
    refine lv_istore (lv' := [(4, .int r_rn), (0, .ref h), (1, .int d), (2, .int k), (3, .int mi)]) hx hb dX0_keepsOrder_20 hl (by decide) rfl (fun ls hl => ?_)
    refine lv_iload_n hx hb dX0_keepsOrder_22 rfl (lv_at hl 4 rfl) ?_
    refine lv_iload hx hb dX0_keepsOrder_23 (lv_at hl 0 rfl) ?_
    refine lv_icmp_ge (tgt := 48) hx hb dX0_keepsOrder_25 (by decide) (fun c_3 => ?_) (fun c_3 => ?_)
    · have tc_3 := t_le c_3
      refine lv_iconst (v := 0) hx hb dX0_keepsOrder_48 (by decide) ?_
      exact hret 0 _ _ (show (n.toInt = 0 → ((0 : Int32).toInt = 1 ∧ ((k.toInt = 7 ∧ mi.toInt < 1410) ∨ (k.toInt ≠ 7 ∧ mi.toInt < (sunB (rem365 d) (k + 1)).toInt)) ∧ (k.toInt = 0 ∨ (sunB (rem365 d) (k - 1)).toInt < mi.toInt)) ∨ ((0 : Int32).toInt = 0 ∧ ¬ (((k.toInt = 7 ∧ mi.toInt < 1410) ∨ (k.toInt ≠ 7 ∧ mi.toInt < (sunB (rem365 d) (k + 1)).toInt)) ∧ (k.toInt = 0 ∨ (sunB (rem365 d) (k - 1)).toInt < mi.toInt)))) ∧ ((0 : Int32).toInt = 0 ∨ (0 : Int32).toInt = 1) from ⟨fun hn => by (first | have hw_rn := hw_rn hn | skip); (first | have hw_rp := hw_rp hn | skip); omega, by omega⟩) rfl dX0_keepsOrder_49
    · have tc_3 := t_nle c_3
      refine lv_iload_n hx hb dX0_keepsOrder_28 rfl (lv_at hl 3 rfl) ?_
      refine lv_if_eq (tgt := 44) hx hb dX0_keepsOrder_29 (by decide) (fun c_4 => ?_) (fun c_4 => ?_)
      · have tc_4 := t_eq c_4
        refine lv_iconst (v := 1) hx hb dX0_keepsOrder_44 (by decide) ?_
        refine lv_goto (tgt := 49) hx hb dX0_keepsOrder_45 (by decide) ?_
        exact hret 1 _ _ (show (n.toInt = 0 → ((1 : Int32).toInt = 1 ∧ ((k.toInt = 7 ∧ mi.toInt < 1410) ∨ (k.toInt ≠ 7 ∧ mi.toInt < (sunB (rem365 d) (k + 1)).toInt)) ∧ (k.toInt = 0 ∨ (sunB (rem365 d) (k - 1)).toInt < mi.toInt)) ∨ ((1 : Int32).toInt = 0 ∧ ¬ (((k.toInt = 7 ∧ mi.toInt < 1410) ∨ (k.toInt ≠ 7 ∧ mi.toInt < (sunB (rem365 d) (k + 1)).toInt)) ∧ (k.toInt = 0 ∨ (sunB (rem365 d) (k - 1)).toInt < mi.toInt)))) ∧ ((1 : Int32).toInt = 0 ∨ (1 : Int32).toInt = 1) from ⟨fun hn => by (first | have hw_rn := hw_rn hn | skip); (first | have hw_rp := hw_rp hn | skip); omega, by omega⟩) rfl dX0_keepsOrder_49
      · have tc_4 := t_neq c_4
        refine lv_iload_n hx hb dX0_keepsOrder_32 rfl (lv_at hl 4 rfl) ?_
        refine lv_aload_n hx hb dX0_keepsOrder_33 rfl (lv_at hl 1 rfl) ?_
        refine lv_iload_n hx hb dX0_keepsOrder_34 rfl (lv_at hl 2 rfl) ?_
        refine lv_iload_n hx hb dX0_keepsOrder_35 rfl (lv_at hl 3 rfl) ?_
        refine lv_iconst (v := 1) hx hb dX0_keepsOrder_36 (by decide) ?_
        refine lv_isub hx hb dX0_keepsOrder_37 ?_
        refine lv_topi (fun k0 ek0 => ?_)
        have hPc := hP.sub (ws' := [(h, .inr (0, [.ref ad, .ref ao, .ref ay, .int n])), (ad, .inl (cI, 100, .inl fd)), (ao, .inl (cI, 100, .inl fo)), (ay, .inl (cI, 100, .inl fy))]) [0, 1, 2, 3] rfl
        refine roV (As := [.int d, .int k0]) (rest := [.int mi]) S (b_startOf  (by omega) (by omega)) (cwV 2 hts gX0_keepsOrder_X0_startOf rfl rfl rfl ⟨rfl, hd_X0_startOf⟩ ⟨Nat.le_of_ble_eq_true rfl, Nat.le_of_ble_eq_true rfl⟩) hK hPc (va_recv hK.1 hPc (ci := 0) (q0 := 0) rfl rfl) rfl hl.1 rfl (Nat.le_of_ble_eq_true rfl) dX0_keepsOrder_38 ⟨Nat.le_of_ble_eq_true rfl, Nat.le_of_ble_eq_true rfl⟩ (fun r_rp hw_rp => ?_)
        have hw_rp : n.toInt = 0 → r_rp = sunB (rem365 d) k0 := hw_rp
        rw [ek0] at hw_rp
        have hw_rp := fun q => t_eq (hw_rp q)
        refine lv_icmp_le (tgt := 48) hx hb dX0_keepsOrder_41 (by decide) (fun c_6 => ?_) (fun c_6 => ?_)
        · have tc_6 := t_le c_6
          refine lv_iconst (v := 0) hx hb dX0_keepsOrder_48 (by decide) ?_
          exact hret 0 _ _ (show (n.toInt = 0 → ((0 : Int32).toInt = 1 ∧ ((k.toInt = 7 ∧ mi.toInt < 1410) ∨ (k.toInt ≠ 7 ∧ mi.toInt < (sunB (rem365 d) (k + 1)).toInt)) ∧ (k.toInt = 0 ∨ (sunB (rem365 d) (k - 1)).toInt < mi.toInt)) ∨ ((0 : Int32).toInt = 0 ∧ ¬ (((k.toInt = 7 ∧ mi.toInt < 1410) ∨ (k.toInt ≠ 7 ∧ mi.toInt < (sunB (rem365 d) (k + 1)).toInt)) ∧ (k.toInt = 0 ∨ (sunB (rem365 d) (k - 1)).toInt < mi.toInt)))) ∧ ((0 : Int32).toInt = 0 ∨ (0 : Int32).toInt = 1) from ⟨fun hn => by (first | have hw_rn := hw_rn hn | skip); (first | have hw_rp := hw_rp hn | skip); omega, by omega⟩) rfl dX0_keepsOrder_49
        · have tc_6 := t_nle c_6
          refine lv_iconst (v := 1) hx hb dX0_keepsOrder_44 (by decide) ?_
          refine lv_goto (tgt := 49) hx hb dX0_keepsOrder_45 (by decide) ?_
          exact hret 1 _ _ (show (n.toInt = 0 → ((1 : Int32).toInt = 1 ∧ ((k.toInt = 7 ∧ mi.toInt < 1410) ∨ (k.toInt ≠ 7 ∧ mi.toInt < (sunB (rem365 d) (k + 1)).toInt)) ∧ (k.toInt = 0 ∨ (sunB (rem365 d) (k - 1)).toInt < mi.toInt)) ∨ ((1 : Int32).toInt = 0 ∧ ¬ (((k.toInt = 7 ∧ mi.toInt < 1410) ∨ (k.toInt ≠ 7 ∧ mi.toInt < (sunB (rem365 d) (k + 1)).toInt)) ∧ (k.toInt = 0 ∨ (sunB (rem365 d) (k - 1)).toInt < mi.toInt)))) ∧ ((1 : Int32).toInt = 0 ∨ (1 : Int32).toInt = 1) from ⟨fun hn => by (first | have hw_rn := hw_rn hn | skip); (first | have hw_rp := hw_rp hn | skip); omega, by omega⟩) rfl dX0_keepsOrder_49
  · have tc_1 := t_eq c_1
    refine lv_sipush (v := 1410) hx hb dX0_keepsOrder_6 (by decide) ?_
    refine lv_goto (tgt := 20) hx hb dX0_keepsOrder_9 (by decide) ?_
    refine lv_istore (lv' := [(4, .int 1410), (0, .ref h), (1, .int d), (2, .int k), (3, .int mi)]) hx hb dX0_keepsOrder_20 hl (by decide) rfl (fun ls hl => ?_)
    refine lv_iload_n hx hb dX0_keepsOrder_22 rfl (lv_at hl 4 rfl) ?_
    refine lv_iload hx hb dX0_keepsOrder_23 (lv_at hl 0 rfl) ?_
    refine lv_icmp_ge (tgt := 48) hx hb dX0_keepsOrder_25 (by decide) (fun c_7 => ?_) (fun c_7 => ?_)
    · have tc_7 := t_le c_7
      refine lv_iconst (v := 0) hx hb dX0_keepsOrder_48 (by decide) ?_
      exact hret 0 _ _ (show (n.toInt = 0 → ((0 : Int32).toInt = 1 ∧ ((k.toInt = 7 ∧ mi.toInt < 1410) ∨ (k.toInt ≠ 7 ∧ mi.toInt < (sunB (rem365 d) (k + 1)).toInt)) ∧ (k.toInt = 0 ∨ (sunB (rem365 d) (k - 1)).toInt < mi.toInt)) ∨ ((0 : Int32).toInt = 0 ∧ ¬ (((k.toInt = 7 ∧ mi.toInt < 1410) ∨ (k.toInt ≠ 7 ∧ mi.toInt < (sunB (rem365 d) (k + 1)).toInt)) ∧ (k.toInt = 0 ∨ (sunB (rem365 d) (k - 1)).toInt < mi.toInt)))) ∧ ((0 : Int32).toInt = 0 ∨ (0 : Int32).toInt = 1) from ⟨fun hn => by (first | have hw_rn := hw_rn hn | skip); (first | have hw_rp := hw_rp hn | skip); omega, by omega⟩) rfl dX0_keepsOrder_49
    · have tc_7 := t_nle c_7
      refine lv_iload_n hx hb dX0_keepsOrder_28 rfl (lv_at hl 3 rfl) ?_
      refine lv_if_eq (tgt := 44) hx hb dX0_keepsOrder_29 (by decide) (fun c_8 => ?_) (fun c_8 => ?_)
      · have tc_8 := t_eq c_8
        refine lv_iconst (v := 1) hx hb dX0_keepsOrder_44 (by decide) ?_
        refine lv_goto (tgt := 49) hx hb dX0_keepsOrder_45 (by decide) ?_
        exact hret 1 _ _ (show (n.toInt = 0 → ((1 : Int32).toInt = 1 ∧ ((k.toInt = 7 ∧ mi.toInt < 1410) ∨ (k.toInt ≠ 7 ∧ mi.toInt < (sunB (rem365 d) (k + 1)).toInt)) ∧ (k.toInt = 0 ∨ (sunB (rem365 d) (k - 1)).toInt < mi.toInt)) ∨ ((1 : Int32).toInt = 0 ∧ ¬ (((k.toInt = 7 ∧ mi.toInt < 1410) ∨ (k.toInt ≠ 7 ∧ mi.toInt < (sunB (rem365 d) (k + 1)).toInt)) ∧ (k.toInt = 0 ∨ (sunB (rem365 d) (k - 1)).toInt < mi.toInt)))) ∧ ((1 : Int32).toInt = 0 ∨ (1 : Int32).toInt = 1) from ⟨fun hn => by (first | have hw_rn := hw_rn hn | skip); (first | have hw_rp := hw_rp hn | skip); omega, by omega⟩) rfl dX0_keepsOrder_49
      · have tc_8 := t_neq c_8
        refine lv_iload_n hx hb dX0_keepsOrder_32 rfl (lv_at hl 4 rfl) ?_
        refine lv_aload_n hx hb dX0_keepsOrder_33 rfl (lv_at hl 1 rfl) ?_
        refine lv_iload_n hx hb dX0_keepsOrder_34 rfl (lv_at hl 2 rfl) ?_
        refine lv_iload_n hx hb dX0_keepsOrder_35 rfl (lv_at hl 3 rfl) ?_
        refine lv_iconst (v := 1) hx hb dX0_keepsOrder_36 (by decide) ?_
        refine lv_isub hx hb dX0_keepsOrder_37 ?_
        refine lv_topi (fun k0 ek0 => ?_)
        have hPc := hP.sub (ws' := [(h, .inr (0, [.ref ad, .ref ao, .ref ay, .int n])), (ad, .inl (cI, 100, .inl fd)), (ao, .inl (cI, 100, .inl fo)), (ay, .inl (cI, 100, .inl fy))]) [0, 1, 2, 3] rfl
        refine roV (As := [.int d, .int k0]) (rest := [.int mi]) S (b_startOf  (by omega) (by omega)) (cwV 2 hts gX0_keepsOrder_X0_startOf rfl rfl rfl ⟨rfl, hd_X0_startOf⟩ ⟨Nat.le_of_ble_eq_true rfl, Nat.le_of_ble_eq_true rfl⟩) hK hPc (va_recv hK.1 hPc (ci := 0) (q0 := 0) rfl rfl) rfl hl.1 rfl (Nat.le_of_ble_eq_true rfl) dX0_keepsOrder_38 ⟨Nat.le_of_ble_eq_true rfl, Nat.le_of_ble_eq_true rfl⟩ (fun r_rp hw_rp => ?_)
        have hw_rp : n.toInt = 0 → r_rp = sunB (rem365 d) k0 := hw_rp
        rw [ek0] at hw_rp
        have hw_rp := fun q => t_eq (hw_rp q)
        refine lv_icmp_le (tgt := 48) hx hb dX0_keepsOrder_41 (by decide) (fun c_10 => ?_) (fun c_10 => ?_)
        · have tc_10 := t_le c_10
          refine lv_iconst (v := 0) hx hb dX0_keepsOrder_48 (by decide) ?_
          exact hret 0 _ _ (show (n.toInt = 0 → ((0 : Int32).toInt = 1 ∧ ((k.toInt = 7 ∧ mi.toInt < 1410) ∨ (k.toInt ≠ 7 ∧ mi.toInt < (sunB (rem365 d) (k + 1)).toInt)) ∧ (k.toInt = 0 ∨ (sunB (rem365 d) (k - 1)).toInt < mi.toInt)) ∨ ((0 : Int32).toInt = 0 ∧ ¬ (((k.toInt = 7 ∧ mi.toInt < 1410) ∨ (k.toInt ≠ 7 ∧ mi.toInt < (sunB (rem365 d) (k + 1)).toInt)) ∧ (k.toInt = 0 ∨ (sunB (rem365 d) (k - 1)).toInt < mi.toInt)))) ∧ ((0 : Int32).toInt = 0 ∨ (0 : Int32).toInt = 1) from ⟨fun hn => by (first | have hw_rn := hw_rn hn | skip); (first | have hw_rp := hw_rp hn | skip); omega, by omega⟩) rfl dX0_keepsOrder_49
        · have tc_10 := t_nle c_10
          refine lv_iconst (v := 1) hx hb dX0_keepsOrder_44 (by decide) ?_
          refine lv_goto (tgt := 49) hx hb dX0_keepsOrder_45 (by decide) ?_
          exact hret 1 _ _ (show (n.toInt = 0 → ((1 : Int32).toInt = 1 ∧ ((k.toInt = 7 ∧ mi.toInt < 1410) ∨ (k.toInt ≠ 7 ∧ mi.toInt < (sunB (rem365 d) (k + 1)).toInt)) ∧ (k.toInt = 0 ∨ (sunB (rem365 d) (k - 1)).toInt < mi.toInt)) ∨ ((1 : Int32).toInt = 0 ∧ ¬ (((k.toInt = 7 ∧ mi.toInt < 1410) ∨ (k.toInt ≠ 7 ∧ mi.toInt < (sunB (rem365 d) (k + 1)).toInt)) ∧ (k.toInt = 0 ∨ (sunB (rem365 d) (k - 1)).toInt < mi.toInt)))) ∧ ((1 : Int32).toInt = 0 ∨ (1 : Int32).toInt = 1) from ⟨fun hn => by (first | have hw_rn := hw_rn hn | skip); (first | have hw_rp := hw_rp hn | skip); omega, by omega⟩) rfl dX0_keepsOrder_49

theorem in_b_delay_X0 : ∀ w ∈ wsX00, w ∈ wsX0_delay := tl_X0_delay_X0
set_option maxHeartbeats 8000000 in
set_option maxRecDepth 100000 in
theorem b_delay {l : Launch} {D : va_G} {cI cZ cB : ClassId} {sz : Nat} {h ad ao ay : Nat} {n : Int32} {fd fo fy : Nat → Int32} {d k mm : Int32} (hn0 : 0 ≤ n.toInt) (hn1 : n.toInt ≤ 100) : Met l yX0_delay wsX0_delay ({ frames := 5, cells := 0, slots := 0, locals := 112 }) (RW D cI cZ cB [.ref h, .int d, .int k, .int mm] sz [(h, .inr (0, [.ref ad, .ref ao, .ref ay, .int n])), (ad, .inl (cI, 100, .inl fd)), (ao, .inl (cI, 100, .inl fo)), (ay, .inl (cI, 100, .inl fy))]) (va_Qi (fun (r : Int32) (u : Int32 × (Nat → Int32) × (Nat → Int32) × (Nat → Int32)) => (0 ≤ u.1.toInt ∧ u.1.toInt ≤ 100) ∧ (n.toInt = 0 → (r = sunB (rem365 d) k + mm ∧ ((k.toInt = 7 ∧ (sunB (rem365 d) k + mm).toInt < 1410) ∨ (k.toInt ≠ 7 ∧ (sunB (rem365 d) k + mm).toInt < (sunB (rem365 d) (k + 1)).toInt)) ∧ (k.toInt = 0 ∨ (sunB (rem365 d) (k - 1)).toInt < (sunB (rem365 d) k + mm).toInt)) ∨ (r.toInt = -1 ∧ ¬ (((k.toInt = 7 ∧ (sunB (rem365 d) k + mm).toInt < 1410) ∨ (k.toInt ≠ 7 ∧ (sunB (rem365 d) k + mm).toInt < (sunB (rem365 d) (k + 1)).toInt)) ∧ (k.toInt = 0 ∨ (sunB (rem365 d) (k - 1)).toInt < (sunB (rem365 d) k + mm).toInt))))) (BW D [(h, .inr (0, [.ref ad, .ref ao, .ref ay, .int n])), (ad, .inl (cI, 100, .inl fd)), (ao, .inl (cI, 100, .inl fo)), (ay, .inl (cI, 100, .inl fy))] sz (fun u : Int32 × (Nat → Int32) × (Nat → Int32) × (Nat → Int32) => [(h, .inr (0, [.ref ad, .ref ao, .ref ay, .int u.1])), (ad, .inl (cI, 100, .inl u.2.1)), (ao, .inl (cI, 100, .inl u.2.2.1)), (ay, .inl (cI, 100, .inl u.2.2.2))])) (va_A [(h, .inr (0, [.ref ad, .ref ao, .ref ay, .int n])), (ad, .inl (cI, 100, .inl fd)), (ao, .inl (cI, 100, .inl fo)), (ay, .inl (cI, 100, .inl fy))] sz)) 0 0 (va_A [(h, .inr (0, [.ref ad, .ref ao, .ref ay, .int n])), (ad, .inl (cI, 100, .inl fd)), (ao, .inl (cI, 100, .inl fo)), (ay, .inl (cI, 100, .inl fy))] sz) := by
  refine rw_ret (cc := cX0_delay) (maxL := 6) (ty := .int) (own := RX0) (by decide) rfl rfl (Nat.le_of_ble_eq_true rfl) ?_
  intro p e s m args below meth c Q A S hin hret hP hK hD hA hS ls hl
  obtain ⟨hx, hb, hml, hown, hts⟩ := id S
  have hl : lv_has ls 6 [(0, .ref h), (1, .int d), (2, .int k), (3, .int mm)] := hl
  have kkm1 : (-1 : Int32).toInt = -1 := by decide
  have kk0 : (0 : Int32).toInt = 0 := by decide
  have kk1 : (1 : Int32).toInt = 1 := by decide
  have kk100 : (100 : Int32).toInt = 100 := by decide
  have kk365 : (365 : Int32).toInt = 365 := by decide
  have lk0 := hts (.fieldLink RX0 30 "AbbeyHours$Bells" "size" "I") (mc_X0_delay_r1 _ (List.mem_of_getElem? (i := 0) rfl))
  have lk1 := hts (.fieldLink RX0 11 "AbbeyHours$Bells" "days" "[I") (mc_X0_delay_r1 _ (List.mem_of_getElem? (i := 1) rfl))
  have lk2 := hts (.fieldLink RX0 15 "AbbeyHours$Bells" "offices" "[I") (mc_X0_delay_r1 _ (List.mem_of_getElem? (i := 2) rfl))
  have lk3 := hts (.fieldLink RX0 18 "AbbeyHours$Bells" "delays" "[I") (mc_X0_delay_r1 _ (List.mem_of_getElem? (i := 3) rfl))
  refine lv_iload_n hx hb dX0_delay_0 rfl (lv_at hl 1 rfl) ?_
  refine lv_sipush (v := 365) hx hb dX0_delay_1 (by decide) ?_
  refine lv_irem hx hb dX0_delay_4 (by decide) ?_
  refine lv_topi (fun yr eyr => ?_)
  have eyr : yr = rem365 d := eyr
  refine lv_iload_n hx hb dX0_delay_5 rfl (lv_at hl 2 rfl) ?_
  have hPc := hP.sub (ws' := []) [] rfl
  refine roS (As := [.int yr, .int k]) (rest := []) S (s_bell  ) (va_cwS 2 hts gX0_delay_X8_bell rfl rfl rfl hd_X8_bell ⟨Nat.le_of_ble_eq_true rfl, Nat.le_of_ble_eq_true rfl⟩) hK hPc rfl hl.1 rfl (Nat.le_of_ble_eq_true rfl) dX0_delay_6 ⟨Nat.le_of_ble_eq_true rfl, Nat.le_of_ble_eq_true rfl⟩ (fun r_rb hw_rb => ?_)
  have hw_rb : r_rb = sunB yr k := hw_rb
  rw [eyr] at hw_rb
  refine lv_iload_n hx hb dX0_delay_9 rfl (lv_at hl 3 rfl) ?_
  refine lv_iadd hx hb dX0_delay_10 ?_
  refine lv_topi (fun mi emi => ?_)
  rw [hw_rb] at emi
  refine lv_istore (lv' := [(4, .int mi), (0, .ref h), (1, .int d), (2, .int k), (3, .int mm)]) hx hb dX0_delay_11 hl (by decide) rfl (fun ls hl => ?_)
  refine lv_aload_n hx hb dX0_delay_13 rfl (lv_at hl 1 rfl) ?_
  refine va_get (D := D) (ci := 0) (v := .int n) (C := RX0) (T := TX0) (N := 4) hx hb hts in_b_delay_X0 hown hK.1 hP 0 rfl rfl 3 (by decide) lk0 (fun _ h9 => h9) rfl dX0_delay_14 ?_
  refine lv_bipush (v := 100) hx hb dX0_delay_17 (by decide) ?_
  refine lv_icmp_ge (tgt := 33) hx hb dX0_delay_19 (by decide) (fun c_3 => ?_) (fun c_3 => ?_)
  · have tc_3 := t_le c_3
    refine lv_iconst (v := (-1)) hx hb dX0_delay_33 (by decide) ?_
    exact hret (-1) (n, fd, fo, fy) _ _ _ _ (show (0 ≤ n.toInt ∧ n.toInt ≤ 100) ∧ (n.toInt = 0 → ((-1 : Int32) = sunB (rem365 d) k + mm ∧ ((k.toInt = 7 ∧ (sunB (rem365 d) k + mm).toInt < 1410) ∨ (k.toInt ≠ 7 ∧ (sunB (rem365 d) k + mm).toInt < (sunB (rem365 d) (k + 1)).toInt)) ∧ (k.toInt = 0 ∨ (sunB (rem365 d) (k - 1)).toInt < (sunB (rem365 d) k + mm).toInt)) ∨ ((-1 : Int32).toInt = -1 ∧ ¬ (((k.toInt = 7 ∧ (sunB (rem365 d) k + mm).toInt < 1410) ∨ (k.toInt ≠ 7 ∧ (sunB (rem365 d) k + mm).toInt < (sunB (rem365 d) (k + 1)).toInt)) ∧ (k.toInt = 0 ∨ (sunB (rem365 d) (k - 1)).toInt < (sunB (rem365 d) k + mm).toInt)))) from ⟨by omega, fun hn => by (first | have hw_ko := hw_ko.1 hn | skip); omega⟩) rfl (hP.sub [0, 1, 2, 3] rfl) (hD.sub [0, 1, 2, 3] (by decide +kernel) rfl) hS dX0_delay_34
  · have tc_3 := t_nle c_3
    refine lv_aload_n hx hb dX0_delay_22 rfl (lv_at hl 1 rfl) ?_
    refine lv_iload_n hx hb dX0_delay_23 rfl (lv_at hl 2 rfl) ?_
    refine lv_iload_n hx hb dX0_delay_24 rfl (lv_at hl 3 rfl) ?_
    refine lv_iload hx hb dX0_delay_25 (lv_at hl 0 rfl) ?_
    have hPc := hP.sub (ws' := [(h, .inr (0, [.ref ad, .ref ao, .ref ay, .int n])), (ad, .inl (cI, 100, .inl fd)), (ao, .inl (cI, 100, .inl fo)), (ay, .inl (cI, 100, .inl fy))]) [0, 1, 2, 3] rfl
    refine roV (As := [.int d, .int k, .int mi]) (rest := []) S (b_keepsOrder  (by omega) (by omega)) (cwV 3 hts gX0_delay_X0_keepsOrder rfl rfl rfl ⟨rfl, hd_X0_keepsOrder⟩ ⟨Nat.le_of_ble_eq_true rfl, Nat.le_of_ble_eq_true rfl⟩) hK hPc (va_recv hK.1 hPc (ci := 0) (q0 := 0) rfl rfl) rfl hl.1 rfl (Nat.le_of_ble_eq_true rfl) dX0_delay_27 ⟨Nat.le_of_ble_eq_true rfl, Nat.le_of_ble_eq_true rfl⟩ (fun r_ko hw_ko => ?_)
    have hw_ko : (n.toInt = 0 → (r_ko.toInt = 1 ∧ ((k.toInt = 7 ∧ mi.toInt < 1410) ∨ (k.toInt ≠ 7 ∧ mi.toInt < (sunB (rem365 d) (k + 1)).toInt)) ∧ (k.toInt = 0 ∨ (sunB (rem365 d) (k - 1)).toInt < mi.toInt)) ∨ (r_ko.toInt = 0 ∧ ¬ (((k.toInt = 7 ∧ mi.toInt < 1410) ∨ (k.toInt ≠ 7 ∧ mi.toInt < (sunB (rem365 d) (k + 1)).toInt)) ∧ (k.toInt = 0 ∨ (sunB (rem365 d) (k - 1)).toInt < mi.toInt)))) ∧ (r_ko.toInt = 0 ∨ r_ko.toInt = 1) := hw_ko
    rw [emi] at hw_ko
    refine lv_if_ne (tgt := 35) hx hb dX0_delay_30 (by decide) (fun c_4 => ?_) (fun c_4 => ?_)
    · have tc_4 := t_neq c_4
      refine lv_aload_n hx hb dX0_delay_35 rfl (lv_at hl 1 rfl) ?_
      refine lv_iload_n hx hb dX0_delay_36 rfl (lv_at hl 2 rfl) ?_
      refine lv_iload_n hx hb dX0_delay_37 rfl (lv_at hl 3 rfl) ?_
      have hPc := hP.sub (ws' := [(h, .inr (0, [.ref ad, .ref ao, .ref ay, .int n])), (ad, .inl (cI, 100, .inl fd)), (ao, .inl (cI, 100, .inl fo)), (ay, .inl (cI, 100, .inl fy))]) [0, 1, 2, 3] rfl
      refine roV (As := [.int d, .int k]) (rest := []) S (b_rowOf  (by omega) (by omega)) (cwV 2 hts gX0_delay_X0_rowOf rfl rfl rfl ⟨rfl, hd_X0_rowOf⟩ ⟨Nat.le_of_ble_eq_true rfl, Nat.le_of_ble_eq_true rfl⟩) hK hPc (va_recv hK.1 hPc (ci := 0) (q0 := 0) rfl rfl) rfl hl.1 rfl (Nat.le_of_ble_eq_true rfl) dX0_delay_38 ⟨Nat.le_of_ble_eq_true rfl, Nat.le_of_ble_eq_true rfl⟩ (fun r_5 hw_5 => ?_)
      have hw_5 : (r_5.toInt = -1) ∨ (0 ≤ r_5.toInt ∧ r_5.toInt < n.toInt) := hw_5
      refine lv_istore (lv' := [(5, .int r_5), (4, .int mi), (0, .ref h), (1, .int d), (2, .int k), (3, .int mm)]) hx hb dX0_delay_41 hl (by decide) rfl (fun ls hl => ?_)
      refine lv_iload hx hb dX0_delay_43 (lv_at hl 0 rfl) ?_
      refine lv_iconst (v := (-1)) hx hb dX0_delay_45 (by decide) ?_
      refine lv_icmp_ne (tgt := 65) hx hb dX0_delay_46 (by decide) (fun c_6 => ?_) (fun c_6 => ?_)
      · have tc_6 := t_neq c_6
        refine lv_aload_n hx hb dX0_delay_65 rfl (lv_at hl 2 rfl) ?_
        refine va_get (D := D) (ci := 0) (v := .ref ad) (C := RX0) (T := TX0) (N := 4) hx hb hts in_b_delay_X0 hown hK.1 hP 0 rfl rfl 0 (by decide) lk1 (fun _ h9 => h9) rfl dX0_delay_66 ?_
        refine lv_iload hx hb dX0_delay_69 (lv_at hl 0 rfl) ?_
        refine lv_iload_n hx hb dX0_delay_71 rfl (lv_at hl 3 rfl) ?_
        refine va_iast hx hb hK.1 hP hD hS 1 0 rfl rfl (t_in (by omega) (by omega)) dX0_delay_72 (fun H locs hP hD hS => ?_)
        obtain ⟨g_7, eg_7⟩ : ∃ z : Nat → Int32, z = upd fd ((r_5 : Int32).toNatClampNeg) d := ⟨_, rfl⟩
        rw [← eg_7] at hP hD
        have hP : va_P D vwCl [(h, .inr (0, [.ref ad, .ref ao, .ref ay, .int n])), (ad, .inl (cI, 100, .inl g_7)), (ao, .inl (cI, 100, .inl fo)), (ay, .inl (cI, 100, .inl fy))] H := hP
        have hD := asD hP hD
        refine lv_aload_n hx hb dX0_delay_73 rfl (lv_at hl 2 rfl) ?_
        refine va_get (D := D) (ci := 0) (v := .ref ao) (C := RX0) (T := TX0) (N := 4) hx hb hts in_b_delay_X0 hown hK.1 hP 0 rfl rfl 1 (by decide) lk2 (fun _ h9 => h9) rfl dX0_delay_74 ?_
        refine lv_iload hx hb dX0_delay_77 (lv_at hl 0 rfl) ?_
        refine lv_iload_n hx hb dX0_delay_79 rfl (lv_at hl 4 rfl) ?_
        refine va_iast hx hb hK.1 hP hD hS 2 0 rfl rfl (t_in (by omega) (by omega)) dX0_delay_80 (fun H locs hP hD hS => ?_)
        obtain ⟨g_8, eg_8⟩ : ∃ z : Nat → Int32, z = upd fo ((r_5 : Int32).toNatClampNeg) k := ⟨_, rfl⟩
        rw [← eg_8] at hP hD
        have hP : va_P D vwCl [(h, .inr (0, [.ref ad, .ref ao, .ref ay, .int n])), (ad, .inl (cI, 100, .inl g_7)), (ao, .inl (cI, 100, .inl g_8)), (ay, .inl (cI, 100, .inl fy))] H := hP
        have hD := asD hP hD
        refine lv_aload_n hx hb dX0_delay_81 rfl (lv_at hl 2 rfl) ?_
        refine va_get (D := D) (ci := 0) (v := .ref ay) (C := RX0) (T := TX0) (N := 4) hx hb hts in_b_delay_X0 hown hK.1 hP 0 rfl rfl 2 (by decide) lk3 (fun _ h9 => h9) rfl dX0_delay_82 ?_
        refine lv_iload hx hb dX0_delay_85 (lv_at hl 0 rfl) ?_
        refine lv_iload_n hx hb dX0_delay_87 rfl (lv_at hl 5 rfl) ?_
        refine va_iast hx hb hK.1 hP hD hS 3 0 rfl rfl (t_in (by omega) (by omega)) dX0_delay_88 (fun H locs hP hD hS => ?_)
        obtain ⟨g_9, eg_9⟩ : ∃ z : Nat → Int32, z = upd fy ((r_5 : Int32).toNatClampNeg) mm := ⟨_, rfl⟩
        rw [← eg_9] at hP hD
        have hP : va_P D vwCl [(h, .inr (0, [.ref ad, .ref ao, .ref ay, .int n])), (ad, .inl (cI, 100, .inl g_7)), (ao, .inl (cI, 100, .inl g_8)), (ay, .inl (cI, 100, .inl g_9))] H := hP
        have hD := asD hP hD
        refine lv_iload hx hb dX0_delay_89 (lv_at hl 1 rfl) ?_
        exact hret mi (n, g_7, g_8, g_9) _ _ _ _ (show (0 ≤ n.toInt ∧ n.toInt ≤ 100) ∧ (n.toInt = 0 → (mi = sunB (rem365 d) k + mm ∧ ((k.toInt = 7 ∧ (sunB (rem365 d) k + mm).toInt < 1410) ∨ (k.toInt ≠ 7 ∧ (sunB (rem365 d) k + mm).toInt < (sunB (rem365 d) (k + 1)).toInt)) ∧ (k.toInt = 0 ∨ (sunB (rem365 d) (k - 1)).toInt < (sunB (rem365 d) k + mm).toInt)) ∨ (mi.toInt = -1 ∧ ¬ (((k.toInt = 7 ∧ (sunB (rem365 d) k + mm).toInt < 1410) ∨ (k.toInt ≠ 7 ∧ (sunB (rem365 d) k + mm).toInt < (sunB (rem365 d) (k + 1)).toInt)) ∧ (k.toInt = 0 ∨ (sunB (rem365 d) (k - 1)).toInt < (sunB (rem365 d) k + mm).toInt)))) from ⟨by omega, fun hn => Or.inl ⟨emi, by have hw_ko := hw_ko.1 hn; omega⟩⟩) rfl (hP.sub [0, 1, 2, 3] rfl) (hD.sub [0, 1, 2, 3] (by decide +kernel) rfl) hS dX0_delay_91
      · have tc_6 := t_eq c_6
        refine lv_aload_n hx hb dX0_delay_49 rfl (lv_at hl 2 rfl) ?_
        refine va_get (D := D) (ci := 0) (v := .int n) (C := RX0) (T := TX0) (N := 4) hx hb hts in_b_delay_X0 hown hK.1 hP 0 rfl rfl 3 (by decide) lk0 (fun _ h9 => h9) rfl dX0_delay_50 ?_
        refine lv_istore (lv' := [(5, .int n), (4, .int mi), (0, .ref h), (1, .int d), (2, .int k), (3, .int mm)]) hx hb dX0_delay_53 hl (by decide) rfl (fun ls hl => ?_)
        refine lv_aload_n hx hb dX0_delay_55 rfl (lv_at hl 2 rfl) ?_
        refine lv_dup hx hb dX0_delay_56 rfl ?_
        refine va_get (D := D) (ci := 0) (v := .int n) (C := RX0) (T := TX0) (N := 4) hx hb hts in_b_delay_X0 hown hK.1 hP 0 rfl rfl 3 (by decide) lk0 (fun _ h9 => h9) rfl dX0_delay_57 ?_
        refine lv_iconst (v := 1) hx hb dX0_delay_60 (by decide) ?_
        refine lv_iadd hx hb dX0_delay_61 ?_
        refine lv_topi (fun x_10 ex_10 => ?_)
        first | have tx_10 := t_add ex_10 (by omega) (by omega) | skip
        refine va_put (D := D) (ci := 0) (v := .int x_10) (ty := .int) (C := RX0) (T := TX0) (N := 4) hx hb hts in_b_delay_X0 tyX0 tyX0_ok nmX0 hown hK.1 hP hD hS 0 rfl rfl 3 (by decide) lk0 (fun _ h9 => h9) rfl (by decide +kernel) rfl rfl (Nat.le_of_ble_eq_true rfl) dX0_delay_62 (fun H locs hP hD hS => ?_)
        have hP : va_P D vwCl [(h, .inr (0, [.ref ad, .ref ao, .ref ay, .int x_10])), (ad, .inl (cI, 100, .inl fd)), (ao, .inl (cI, 100, .inl fo)), (ay, .inl (cI, 100, .inl fy))] H := hP
        have hD := asD hP hD
        refine lv_aload_n hx hb dX0_delay_65 rfl (lv_at hl 2 rfl) ?_
        refine va_get (D := D) (ci := 0) (v := .ref ad) (C := RX0) (T := TX0) (N := 4) hx hb hts in_b_delay_X0 hown hK.1 hP 0 rfl rfl 0 (by decide) lk1 (fun _ h9 => h9) rfl dX0_delay_66 ?_
        refine lv_iload hx hb dX0_delay_69 (lv_at hl 0 rfl) ?_
        refine lv_iload_n hx hb dX0_delay_71 rfl (lv_at hl 3 rfl) ?_
        refine va_iast hx hb hK.1 hP hD hS 1 0 rfl rfl (t_in (by omega) (by omega)) dX0_delay_72 (fun H locs hP hD hS => ?_)
        obtain ⟨g_11, eg_11⟩ : ∃ z : Nat → Int32, z = upd fd ((n : Int32).toNatClampNeg) d := ⟨_, rfl⟩
        rw [← eg_11] at hP hD
        have hP : va_P D vwCl [(h, .inr (0, [.ref ad, .ref ao, .ref ay, .int x_10])), (ad, .inl (cI, 100, .inl g_11)), (ao, .inl (cI, 100, .inl fo)), (ay, .inl (cI, 100, .inl fy))] H := hP
        have hD := asD hP hD
        refine lv_aload_n hx hb dX0_delay_73 rfl (lv_at hl 2 rfl) ?_
        refine va_get (D := D) (ci := 0) (v := .ref ao) (C := RX0) (T := TX0) (N := 4) hx hb hts in_b_delay_X0 hown hK.1 hP 0 rfl rfl 1 (by decide) lk2 (fun _ h9 => h9) rfl dX0_delay_74 ?_
        refine lv_iload hx hb dX0_delay_77 (lv_at hl 0 rfl) ?_
        refine lv_iload_n hx hb dX0_delay_79 rfl (lv_at hl 4 rfl) ?_
        refine va_iast hx hb hK.1 hP hD hS 2 0 rfl rfl (t_in (by omega) (by omega)) dX0_delay_80 (fun H locs hP hD hS => ?_)
        obtain ⟨g_12, eg_12⟩ : ∃ z : Nat → Int32, z = upd fo ((n : Int32).toNatClampNeg) k := ⟨_, rfl⟩
        rw [← eg_12] at hP hD
        have hP : va_P D vwCl [(h, .inr (0, [.ref ad, .ref ao, .ref ay, .int x_10])), (ad, .inl (cI, 100, .inl g_11)), (ao, .inl (cI, 100, .inl g_12)), (ay, .inl (cI, 100, .inl fy))] H := hP
        have hD := asD hP hD
        refine lv_aload_n hx hb dX0_delay_81 rfl (lv_at hl 2 rfl) ?_
        refine va_get (D := D) (ci := 0) (v := .ref ay) (C := RX0) (T := TX0) (N := 4) hx hb hts in_b_delay_X0 hown hK.1 hP 0 rfl rfl 2 (by decide) lk3 (fun _ h9 => h9) rfl dX0_delay_82 ?_
        refine lv_iload hx hb dX0_delay_85 (lv_at hl 0 rfl) ?_
        refine lv_iload_n hx hb dX0_delay_87 rfl (lv_at hl 5 rfl) ?_
        refine va_iast hx hb hK.1 hP hD hS 3 0 rfl rfl (t_in (by omega) (by omega)) dX0_delay_88 (fun H locs hP hD hS => ?_)
        obtain ⟨g_13, eg_13⟩ : ∃ z : Nat → Int32, z = upd fy ((n : Int32).toNatClampNeg) mm := ⟨_, rfl⟩
        rw [← eg_13] at hP hD
        have hP : va_P D vwCl [(h, .inr (0, [.ref ad, .ref ao, .ref ay, .int x_10])), (ad, .inl (cI, 100, .inl g_11)), (ao, .inl (cI, 100, .inl g_12)), (ay, .inl (cI, 100, .inl g_13))] H := hP
        have hD := asD hP hD
        refine lv_iload hx hb dX0_delay_89 (lv_at hl 1 rfl) ?_
        exact hret mi (x_10, g_11, g_12, g_13) _ _ _ _ (show (0 ≤ x_10.toInt ∧ x_10.toInt ≤ 100) ∧ (n.toInt = 0 → (mi = sunB (rem365 d) k + mm ∧ ((k.toInt = 7 ∧ (sunB (rem365 d) k + mm).toInt < 1410) ∨ (k.toInt ≠ 7 ∧ (sunB (rem365 d) k + mm).toInt < (sunB (rem365 d) (k + 1)).toInt)) ∧ (k.toInt = 0 ∨ (sunB (rem365 d) (k - 1)).toInt < (sunB (rem365 d) k + mm).toInt)) ∨ (mi.toInt = -1 ∧ ¬ (((k.toInt = 7 ∧ (sunB (rem365 d) k + mm).toInt < 1410) ∨ (k.toInt ≠ 7 ∧ (sunB (rem365 d) k + mm).toInt < (sunB (rem365 d) (k + 1)).toInt)) ∧ (k.toInt = 0 ∨ (sunB (rem365 d) (k - 1)).toInt < (sunB (rem365 d) k + mm).toInt)))) from ⟨by omega, fun hn => Or.inl ⟨emi, by have hw_ko := hw_ko.1 hn; omega⟩⟩) rfl (hP.sub [0, 1, 2, 3] rfl) (hD.sub [0, 1, 2, 3] (by decide +kernel) rfl) hS dX0_delay_91
    · have tc_4 := t_eq c_4
      refine lv_iconst (v := (-1)) hx hb dX0_delay_33 (by decide) ?_
      exact hret (-1) (n, fd, fo, fy) _ _ _ _ (show (0 ≤ n.toInt ∧ n.toInt ≤ 100) ∧ (n.toInt = 0 → ((-1 : Int32) = sunB (rem365 d) k + mm ∧ ((k.toInt = 7 ∧ (sunB (rem365 d) k + mm).toInt < 1410) ∨ (k.toInt ≠ 7 ∧ (sunB (rem365 d) k + mm).toInt < (sunB (rem365 d) (k + 1)).toInt)) ∧ (k.toInt = 0 ∨ (sunB (rem365 d) (k - 1)).toInt < (sunB (rem365 d) k + mm).toInt)) ∨ ((-1 : Int32).toInt = -1 ∧ ¬ (((k.toInt = 7 ∧ (sunB (rem365 d) k + mm).toInt < 1410) ∨ (k.toInt ≠ 7 ∧ (sunB (rem365 d) k + mm).toInt < (sunB (rem365 d) (k + 1)).toInt)) ∧ (k.toInt = 0 ∨ (sunB (rem365 d) (k - 1)).toInt < (sunB (rem365 d) k + mm).toInt)))) from ⟨by omega, fun hn => by (first | have hw_ko := hw_ko.1 hn | skip); omega⟩) rfl (hP.sub [0, 1, 2, 3] rfl) (hD.sub [0, 1, 2, 3] (by decide +kernel) rfl) hS dX0_delay_34

set_option maxHeartbeats 8000000 in
set_option maxRecDepth 100000 in
theorem b_part {l : Launch} {D : va_G} {cI cZ cB : ClassId} {v : Int32}  : Met l yX0_partOfOffice wsX0_partOfOffice ({ frames := 1, cells := 0, slots := 0, locals := 14 }) (RO D cI cZ cB [.int v] []) (vp_Si (fun r : Int32 => True)) 0 0 (fun _ => False) := by
  refine ro_ret (cc := cX0_partOfOffice) (maxL := 1) (ty := .int) (own := RX0) (by decide) rfl rfl (Nat.le_of_ble_eq_true rfl) ?_
  intro p e s m args below meth c Q S hret hP hK ls hl
  obtain ⟨hx, hb, hml, hown, hts⟩ := id S
  have hl : lv_has ls 1 [(0, .int v)] := hl
  have kk0 : (0 : Int32).toInt = 0 := by decide
  have kk30 : (30 : Int32).toInt = 30 := by decide
  have lk0 := hts (.methodLink RX0 51 Lib.Math.min.name) (List.mem_cons_of_mem _ (List.mem_of_getElem? (i := 0) rfl))
  have lk1 := hts (.static Lib.Math.min.name) (List.mem_cons_of_mem _ (List.mem_of_getElem? (i := 1) rfl))
  have lk2 := hts (.initialized "java/lang/Math") (List.mem_cons_of_mem _ (List.mem_of_getElem? (i := 2) rfl))
  have lk3 := hts (.code Lib.Math.min.name Lib.Math.min.code 2 (some .int)) (List.mem_cons_of_mem _ (List.mem_of_getElem? (i := 3) rfl))
  have lk4 := hts (.methodLink RX0 56 Lib.Math.max.name) (List.mem_cons_of_mem _ (List.mem_of_getElem? (i := 4) rfl))
  have lk5 := hts (.static Lib.Math.max.name) (List.mem_cons_of_mem _ (List.mem_of_getElem? (i := 5) rfl))
  have lk6 := hts (.code Lib.Math.max.name Lib.Math.max.code 2 (some .int)) (List.mem_cons_of_mem _ (List.mem_of_getElem? (i := 6) rfl))
  refine lv_iconst (v := 0) hx hb dX0_partOfOffice_0 (by decide) ?_
  refine lv_bipush (v := 30) hx hb dX0_partOfOffice_1 (by decide) ?_
  refine lv_iload_n hx hb dX0_partOfOffice_3 rfl (lv_at hl 0 rfl) ?_
  refine va_mmin hx hb (hml.trans hl.1.symm) hown lk0 lk1 lk2 lk3 (Nat.le_of_ble_eq_true rfl) (Nat.le_of_ble_eq_true rfl) (Nat.le_of_ble_eq_true rfl) (Nat.le_of_ble_eq_true rfl) dX0_partOfOffice_4 ?_
  refine lv_topi (fun x_1 ex_1 => ?_)
  have tx_1 := t_min ex_1
  refine va_mmax hx hb (hml.trans hl.1.symm) hown lk4 lk5 lk2 lk6 (Nat.le_of_ble_eq_true rfl) (Nat.le_of_ble_eq_true rfl) (Nat.le_of_ble_eq_true rfl) (Nat.le_of_ble_eq_true rfl) dX0_partOfOffice_7 ?_
  refine lv_topi (fun x_2 ex_2 => ?_)
  have tx_2 := t_max ex_2
  exact hret x_2 _ _ (show True from trivial) rfl dX0_partOfOffice_10

set_option maxHeartbeats 8000000 in
set_option maxRecDepth 100000 in
theorem b_candles {l : Launch} {D : va_G} {cI cZ cB : ClassId} {h ad ao ay : Nat} {n : Int32} {fd fo fy : Nat → Int32} {d : Int32} (hn0 : 0 ≤ n.toInt) (hn1 : n.toInt ≤ 100) : Met l yX0_candles wsX0_candles ({ frames := 4, cells := 0, slots := 0, locals := 88 }) (RO D cI cZ cB [.ref h, .int d] [(h, .inr (0, [.ref ad, .ref ao, .ref ay, .int n])), (ad, .inl (cI, 100, .inl fd)), (ao, .inl (cI, 100, .inl fo)), (ay, .inl (cI, 100, .inl fy))]) (vp_Si (fun r : Int32 => True)) 0 0 (fun _ => False) := by
  refine ro_ret (cc := cX0_candles) (maxL := 7) (ty := .int) (own := RX0) (by decide) rfl rfl (Nat.le_of_ble_eq_true rfl) ?_
  intro p e s m args below meth c Q S hret hP hK ls hl
  obtain ⟨hx, hb, hml, hown, hts⟩ := id S
  have hl : lv_has ls 7 [(0, .ref h), (1, .int d)] := hl
  have kk0 : (0 : Int32).toInt = 0 := by decide
  have kk1 : (1 : Int32).toInt = 1 := by decide
  have kk8 : (8 : Int32).toInt = 8 := by decide
  have kk30 : (30 : Int32).toInt = 30 := by decide
  have kk365 : (365 : Int32).toInt = 365 := by decide
  refine lv_iload_n hx hb dX0_candles_0 rfl (lv_at hl 1 rfl) ?_
  refine lv_sipush (v := 365) hx hb dX0_candles_1 (by decide) ?_
  refine lv_irem hx hb dX0_candles_4 (by decide) ?_
  refine lv_topi (fun x_1 ex_1 => ?_)
  have hPc := hP.sub (ws' := []) [] rfl
  refine roS (As := [.int x_1]) (rest := []) S (s_rise  ) (va_cwS 1 hts gX0_candles_X8_rise rfl rfl rfl hd_X8_rise ⟨Nat.le_of_ble_eq_true rfl, Nat.le_of_ble_eq_true rfl⟩) hK hPc rfl hl.1 rfl (Nat.le_of_ble_eq_true rfl) dX0_candles_5 ⟨Nat.le_of_ble_eq_true rfl, Nat.le_of_ble_eq_true rfl⟩ (fun r_2 hw_2 => ?_)
  have hw_2 : r_2 = sunR x_1 := hw_2
  refine lv_istore_n (lv' := [(2, .int r_2), (0, .ref h), (1, .int d)]) hx hb dX0_candles_8 rfl hl (by decide) rfl (fun ls hl => ?_)
  refine lv_iload_n hx hb dX0_candles_9 rfl (lv_at hl 2 rfl) ?_
  refine lv_sipush (v := 365) hx hb dX0_candles_10 (by decide) ?_
  refine lv_irem hx hb dX0_candles_13 (by decide) ?_
  refine lv_topi (fun x_3 ex_3 => ?_)
  have hPc := hP.sub (ws' := []) [] rfl
  refine roS (As := [.int x_3]) (rest := []) S (s_setting  ) (va_cwS 1 hts gX0_candles_X8_setting rfl rfl rfl hd_X8_setting ⟨Nat.le_of_ble_eq_true rfl, Nat.le_of_ble_eq_true rfl⟩) hK hPc rfl hl.1 rfl (Nat.le_of_ble_eq_true rfl) dX0_candles_14 ⟨Nat.le_of_ble_eq_true rfl, Nat.le_of_ble_eq_true rfl⟩ (fun r_4 hw_4 => ?_)
  have hw_4 : r_4 = sunS x_3 := hw_4
  refine lv_istore_n (lv' := [(3, .int r_4), (2, .int r_2), (0, .ref h), (1, .int d)]) hx hb dX0_candles_17 rfl hl (by decide) rfl (fun ls hl => ?_)
  refine lv_iconst (v := 0) hx hb dX0_candles_18 (by decide) ?_
  refine lv_istore (lv' := [(4, .int 0), (3, .int r_4), (2, .int r_2), (0, .ref h), (1, .int d)]) hx hb dX0_candles_19 hl (by decide) rfl (fun ls hl => ?_)
  refine lv_iconst (v := 0) hx hb dX0_candles_21 (by decide) ?_
  refine lv_istore (lv' := [(5, .int 0), (4, .int 0), (3, .int r_4), (2, .int r_2), (0, .ref h), (1, .int d)]) hx hb dX0_candles_22 hl (by decide) rfl (fun ls hl => ?_)
  have loop24 : ∀ (fuel : Nat) (dk : Int32) (i : Int32), 8 - i.toInt < (fuel : Int) → (0 ≤ i.toInt) → (i.toInt ≤ 8) → ∀ ls : Array Slot, lv_has ls 7 [(5, .int i), (4, .int dk), (3, .int r_4), (2, .int r_2), (0, .ref h), (1, .int d)] → W p l e ({ frames := 4, cells := 0, slots := 0, locals := 88 } : Room) s m args below meth c s.heap [] 0 0 Q (F0 m 24 ls []) := by
    intro fuel
    induction fuel with
    | zero =>
      intro dk i hmu hi0 hi1 ls hl
      exfalso; omega
    | succ fuel ih24 =>
      intro dk i hmu hi0 hi1 ls hl
      refine lv_iload hx hb dX0_candles_24 (lv_at hl 0 rfl) ?_
      refine lv_bipush (v := 8) hx hb dX0_candles_26 (by decide) ?_
      refine lv_icmp_ge (tgt := 73) hx hb dX0_candles_28 (by decide) (fun c_5 => ?_) (fun c_5 => ?_)
      · have tc_5 := t_le c_5
        refine lv_iload hx hb dX0_candles_73 (lv_at hl 1 rfl) ?_
        exact hret dk _ _ (show True from trivial) rfl dX0_candles_75
      · have tc_5 := t_nle c_5
        refine lv_aload_n hx hb dX0_candles_31 rfl (lv_at hl 4 rfl) ?_
        refine lv_iload_n hx hb dX0_candles_32 rfl (lv_at hl 5 rfl) ?_
        refine lv_iload hx hb dX0_candles_33 (lv_at hl 0 rfl) ?_
        have hPc := hP.sub (ws' := [(h, .inr (0, [.ref ad, .ref ao, .ref ay, .int n])), (ad, .inl (cI, 100, .inl fd)), (ao, .inl (cI, 100, .inl fo)), (ay, .inl (cI, 100, .inl fy))]) [0, 1, 2, 3] rfl
        refine roV (As := [.int d, .int i]) (rest := []) S (b_startOf  (by omega) (by omega)) (cwV 2 hts gX0_candles_X0_startOf rfl rfl rfl ⟨rfl, hd_X0_startOf⟩ ⟨Nat.le_of_ble_eq_true rfl, Nat.le_of_ble_eq_true rfl⟩) hK hPc (va_recv hK.1 hPc (ci := 0) (q0 := 0) rfl rfl) rfl hl.1 rfl (Nat.le_of_ble_eq_true rfl) dX0_candles_35 ⟨Nat.le_of_ble_eq_true rfl, Nat.le_of_ble_eq_true rfl⟩ (fun r_6 hw_6 => ?_)
        have hw_6 : n.toInt = 0 → r_6 = sunB (rem365 d) i := hw_6
        refine lv_istore (lv' := [(6, .int r_6), (5, .int i), (4, .int dk), (3, .int r_4), (2, .int r_2), (0, .ref h), (1, .int d)]) hx hb dX0_candles_38 hl (by decide) rfl (fun ls hl => ?_)
        refine lv_iload hx hb dX0_candles_40 (lv_at hl 2 rfl) ?_
        refine lv_iload_n hx hb dX0_candles_42 rfl (lv_at hl 4 rfl) ?_
        refine lv_iload hx hb dX0_candles_43 (lv_at hl 0 rfl) ?_
        refine lv_isub hx hb dX0_candles_45 ?_
        refine lv_topi (fun x_7 ex_7 => ?_)
        have hPc := hP.sub (ws' := []) [] rfl
        refine roS (As := [.int x_7]) (rest := [.int dk]) S (b_part  ) (va_cwS 1 hts gX0_candles_X0_partOfOffice rfl rfl rfl hd_X0_partOfOffice ⟨Nat.le_of_ble_eq_true rfl, Nat.le_of_ble_eq_true rfl⟩) hK hPc rfl hl.1 rfl (Nat.le_of_ble_eq_true rfl) dX0_candles_46 ⟨Nat.le_of_ble_eq_true rfl, Nat.le_of_ble_eq_true rfl⟩ (fun r_8 hw_8 => ?_)
        have hw_8 : True := hw_8
        refine lv_iadd hx hb dX0_candles_49 ?_
        refine lv_topi (fun x_9 ex_9 => ?_)
        refine lv_istore (lv' := [(4, .int x_9), (6, .int r_6), (5, .int i), (3, .int r_4), (2, .int r_2), (0, .ref h), (1, .int d)]) hx hb dX0_candles_50 hl (by decide) rfl (fun ls hl => ?_)
        refine lv_iload hx hb dX0_candles_52 (lv_at hl 0 rfl) ?_
        refine lv_iload hx hb dX0_candles_54 (lv_at hl 1 rfl) ?_
        refine lv_bipush (v := 30) hx hb dX0_candles_56 (by decide) ?_
        refine lv_iadd hx hb dX0_candles_58 ?_
        refine lv_topi (fun x_10 ex_10 => ?_)
        refine lv_iload_n hx hb dX0_candles_59 rfl (lv_at hl 3 rfl) ?_
        refine lv_isub hx hb dX0_candles_60 ?_
        refine lv_topi (fun x_11 ex_11 => ?_)
        have hPc := hP.sub (ws' := []) [] rfl
        refine roS (As := [.int x_11]) (rest := [.int x_9]) S (b_part  ) (va_cwS 1 hts gX0_candles_X0_partOfOffice rfl rfl rfl hd_X0_partOfOffice ⟨Nat.le_of_ble_eq_true rfl, Nat.le_of_ble_eq_true rfl⟩) hK hPc rfl hl.1 rfl (Nat.le_of_ble_eq_true rfl) dX0_candles_61 ⟨Nat.le_of_ble_eq_true rfl, Nat.le_of_ble_eq_true rfl⟩ (fun r_12 hw_12 => ?_)
        have hw_12 : True := hw_12
        refine lv_iadd hx hb dX0_candles_64 ?_
        refine lv_topi (fun x_13 ex_13 => ?_)
        refine lv_istore (lv' := [(4, .int x_13), (6, .int r_6), (5, .int i), (3, .int r_4), (2, .int r_2), (0, .ref h), (1, .int d)]) hx hb dX0_candles_65 hl (by decide) rfl (fun ls hl => ?_)
        obtain ⟨x_14, ex_14⟩ : ∃ y : Int32, y = i + 1 := ⟨_, rfl⟩
        refine lv_iinc (v := x_14) (lv' := [(5, .int x_14), (4, .int x_13), (6, .int r_6), (3, .int r_4), (2, .int r_2), (0, .ref h), (1, .int d)]) hx hb dX0_candles_67 hl (k := 2) rfl (by rw [ex_14]; rfl) (by decide) rfl (fun ls hl => ?_)
        first | have tx_14 := t_add ex_14 (by omega) (by omega) | skip
        refine lv_goto (tgt := 24) hx hb dX0_candles_70 (by decide) ?_
        exact ih24 x_13 x_14 (by omega) (by omega) (by omega) ls (lv_sub hl [0, 1, 3, 4, 5, 6] rfl)
  exact loop24 ((8 - (0 : Int32).toInt).toNat + 1) 0 0 (by omega) (by omega) (by omega) ls (lv_sub hl [0, 1, 2, 3, 4, 5] rfl)

