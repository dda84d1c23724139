theorem in_e_isAble_X5 : ∀ w ∈ wsX50, w ∈ wsX5_isAble := tl_X5_isAble_X5
set_option maxHeartbeats 8000000 in
set_option maxRecDepth 100000 in
theorem e_isAble {l : Launch} {D : va_G} {cI cZ cB : ClassId} {h a_priests a_barred a_cameOn a_absent a_absentFrom a_absentTo : Nat} {v_size v_rows : Int32} {f_cameOn f_absent f_absentFrom f_absentTo : Nat → Int32} {i d : Int32} (hv_size0 : 0 ≤ v_size.toInt) (hv_size1 : v_size.toInt ≤ 24) (hv_rows0 : 0 ≤ v_rows.toInt) (hv_rows1 : v_rows.toInt ≤ 60) (hi0 : 0 ≤ i.toInt) (hi1 : i.toInt < v_size.toInt) : Met l yX5_isAble wsX5_isAble ({ frames := 1, cells := 0, slots := 0, locals := 22 }) (RO D cI cZ cB [.ref h, .int i, .int d] [(h, .inr (5, [.ref a_priests, .ref a_barred, .ref a_cameOn, .ref a_absent, .ref a_absentFrom, .ref a_absentTo, .int v_size, .int v_rows])), (a_cameOn, .inl (cI, 24, .inl f_cameOn)), (a_absent, .inl (cI, 60, .inl f_absent)), (a_absentFrom, .inl (cI, 60, .inl f_absentFrom)), (a_absentTo, .inl (cI, 60, .inl f_absentTo))]) (vp_Si (fun r : Int32 => (r.toInt = 1 ∧ AbleP f_cameOn f_absent f_absentFrom f_absentTo v_rows.toInt i d) ∨ (r.toInt = 0 ∧ ¬ AbleP f_cameOn f_absent f_absentFrom f_absentTo v_rows.toInt i d))) 0 0 (fun _ => False) := by
  refine ro_ret (cc := cX5_isAble) (maxL := 4) (ty := .boolean) (own := RX5) (by decide) rfl rfl (Nat.le_of_ble_eq_true rfl) ?_
  intro p e s m args below meth c Q S hret hP hK ls hl
  obtain ⟨hx, hb, hml, hown, hts⟩ := id S
  have hl : lv_has ls 4 [(0, .ref h), (1, .int i), (2, .int d)] := hl
  have kk0 : (0 : Int32).toInt = 0 := by decide
  have kk1 : (1 : Int32).toInt = 1 := by decide
  have lk0 := hts (.fieldLink RX5 19 "AbbeyHours$Monks" "cameOn" "[I") (List.mem_cons_of_mem _ (List.mem_append_left _ (List.mem_of_getElem? (i := 0) rfl)))
  have lk1 := hts (.fieldLink RX5 35 "AbbeyHours$Monks" "rows" "I") (List.mem_cons_of_mem _ (List.mem_append_left _ (List.mem_of_getElem? (i := 1) rfl)))
  have lk2 := hts (.fieldLink RX5 22 "AbbeyHours$Monks" "absent" "[I") (List.mem_cons_of_mem _ (List.mem_append_left _ (List.mem_of_getElem? (i := 2) rfl)))
  have lk3 := hts (.fieldLink RX5 25 "AbbeyHours$Monks" "absentFrom" "[I") (List.mem_cons_of_mem _ (List.mem_append_left _ (List.mem_of_getElem? (i := 3) rfl)))
  have lk4 := hts (.fieldLink RX5 28 "AbbeyHours$Monks" "absentTo" "[I") (List.mem_cons_of_mem _ (List.mem_append_left _ (List.mem_of_getElem? (i := 4) rfl)))
  have lk5 := hts (.initialized RX11) (List.mem_cons_of_mem _ (List.mem_append_left _ (List.mem_of_getElem? (i := 12) rfl)))
  have lk6 := hts (.static yX11_within) (List.mem_cons_of_mem _ (List.mem_append_left _ (List.mem_of_getElem? (i := 11) rfl)))
  refine lv_aload_n hx hb dX5_isAble_0 rfl (lv_at hl 0 rfl) ?_
  refine lv_iload_n hx hb dX5_isAble_1 rfl (lv_at hl 1 rfl) ?_
  have hPc := hP.sub (ws' := [(h, .inr (5, [.ref a_priests, .ref a_barred, .ref a_cameOn, .ref a_absent, .ref a_absentFrom, .ref a_absentTo, .int v_size, .int v_rows]))]) [0] rfl
  refine roV (As := [.int i]) (rest := []) S (k_has  ) (cwV 1 hts gX5_isAble_X5_has rfl rfl rfl ⟨rfl, hd_X5_has⟩ ⟨Nat.le_of_ble_eq_true rfl, Nat.le_of_ble_eq_true rfl⟩) hK hPc (va_recv hK.1 hPc (ci := 5) (q0 := 0) rfl rfl) rfl hl.1 rfl (Nat.le_of_ble_eq_true rfl) dX5_isAble_2 ⟨Nat.le_of_ble_eq_true rfl, Nat.le_of_ble_eq_true rfl⟩ (fun r_1 hw_1 => ?_)
  have hw_1 : (r_1.toInt = 1 ∧ 0 ≤ i.toInt ∧ i.toInt < v_size.toInt) ∨ (r_1.toInt = 0 ∧ (i.toInt < 0 ∨ v_size.toInt ≤ i.toInt)) := hw_1
  refine lv_if_eq (tgt := 18) hx hb dX5_isAble_5 (by decide) (fun c_2 => ?_) (fun c_2 => ?_)
  · have tc_2 := t_eq c_2
    exfalso; omega
  · have tc_2 := t_neq c_2
    refine lv_iload_n hx hb dX5_isAble_8 rfl (lv_at hl 2 rfl) ?_
    refine lv_aload_n hx hb dX5_isAble_9 rfl (lv_at hl 0 rfl) ?_
    refine va_get (D := D) (ci := 5) (v := .ref a_cameOn) (C := RX5) (T := TX5) (N := 8) hx hb hts in_e_isAble_X5 hown hK.1 hP 0 rfl rfl 2 (by decide) lk0 (fun _ h9 => h9) rfl dX5_isAble_10 ?_
    refine lv_iload_n hx hb dX5_isAble_13 rfl (lv_at hl 1 rfl) ?_
    refine va_iald hx hb hK.1 hP 1 0 rfl rfl (t_in (by omega) (by omega)) dX5_isAble_14 ?_
    refine lv_topi (fun yc eyc => ?_)
    refine lv_icmp_ge (tgt := 20) hx hb dX5_isAble_15 (by decide) (fun c_4 => ?_) (fun c_4 => ?_)
    · have tc_4 := t_le c_4
      refine lv_iconst (v := 0) hx hb dX5_isAble_20 (by decide) ?_
      refine lv_istore_n (lv' := [(3, .int 0), (0, .ref h), (1, .int i), (2, .int d)]) hx hb dX5_isAble_21 rfl hl (by decide) rfl (fun ls hl => ?_)
      have loop22 : ∀ (fuel : Nat) (j : Int32), v_rows.toInt - j.toInt < (fuel : Int) → (0 ≤ j.toInt) → (j.toInt ≤ v_rows.toInt) → (Al (fun q => ¬ AbsP f_absent f_absentFrom f_absentTo i d q) j.toInt) → ∀ ls : Array Slot, lv_has ls 4 [(3, .int j), (0, .ref h), (1, .int i), (2, .int d)] → W p l e ({ frames := 1, cells := 0, slots := 0, locals := 22 } : Room) s m args below meth c s.heap [] 0 0 Q (F0 m 22 ls []) := by
        intro fuel
        induction fuel with
        | zero =>
          intro j hmu hj0 hj1 hal ls hl
          exfalso; omega
        | succ fuel ih22 =>
          intro j hmu hj0 hj1 hal ls hl
          refine lv_iload_n hx hb dX5_isAble_22 rfl (lv_at hl 0 rfl) ?_
          refine lv_aload_n hx hb dX5_isAble_23 rfl (lv_at hl 1 rfl) ?_
          refine va_get (D := D) (ci := 5) (v := .int v_rows) (C := RX5) (T := TX5) (N := 8) hx hb hts in_e_isAble_X5 hown hK.1 hP 0 rfl rfl 7 (by decide) lk1 (fun _ h9 => h9) rfl dX5_isAble_24 ?_
          refine lv_icmp_ge (tgt := 67) hx hb dX5_isAble_27 (by decide) (fun c_5 => ?_) (fun c_5 => ?_)
          · have tc_5 := t_le c_5
            refine lv_iconst (v := 1) hx hb dX5_isAble_67 (by decide) ?_
            exact hret 1 _ _ (show ((1 : Int32).toInt = 1 ∧ AbleP f_cameOn f_absent f_absentFrom f_absentTo v_rows.toInt i d) ∨ ((1 : Int32).toInt = 0 ∧ ¬ AbleP f_cameOn f_absent f_absentFrom f_absentTo v_rows.toInt i d) from Or.inl ⟨by omega, by rw [← eyc]; omega, hal.to (by omega)⟩) rfl dX5_isAble_68
          · have tc_5 := t_nle c_5
            refine lv_aload_n hx hb dX5_isAble_30 rfl (lv_at hl 1 rfl) ?_
            refine va_get (D := D) (ci := 5) (v := .ref a_absent) (C := RX5) (T := TX5) (N := 8) hx hb hts in_e_isAble_X5 hown hK.1 hP 0 rfl rfl 3 (by decide) lk2 (fun _ h9 => h9) rfl dX5_isAble_31 ?_
            refine lv_iload_n hx hb dX5_isAble_34 rfl (lv_at hl 0 rfl) ?_
            refine va_iald hx hb hK.1 hP 2 0 rfl rfl (t_in (by omega) (by omega)) dX5_isAble_35 ?_
            refine lv_topi (fun ya eya => ?_)
            refine lv_iload_n hx hb dX5_isAble_36 rfl (lv_at hl 2 rfl) ?_
            refine lv_icmp_ne (tgt := 61) hx hb dX5_isAble_37 (by decide) (fun c_7 => ?_) (fun c_7 => ?_)
            · have tc_7 := t_neq c_7
              obtain ⟨x_8, ex_8⟩ : ∃ y : Int32, y = j + 1 := ⟨_, rfl⟩
              refine lv_iinc (v := x_8) (lv' := [(3, .int x_8), (0, .ref h), (1, .int i), (2, .int d)]) hx hb dX5_isAble_61 hl (k := 0) rfl (by rw [ex_8]; rfl) (by decide) rfl (fun ls hl => ?_)
              first | have tx_8 := t_add ex_8 (by omega) (by omega) | skip
              refine lv_goto (tgt := 22) hx hb dX5_isAble_64 (by decide) ?_
              exact ih22 x_8 (by omega) (by omega) (by omega) (hal.up (i := j) (by omega) (fun h => by have h1 := h.1; have h2 := h.2; rw [← eya] at h1; first | (have := t_eq h1; omega) | (rw [← eyf, ← eyt] at h2; omega)) (by omega)) ls (lv_sub hl [0, 1, 2, 3] rfl)
            · have tc_7 := t_eq c_7
              refine lv_iload_n hx hb dX5_isAble_40 rfl (lv_at hl 3 rfl) ?_
              refine lv_aload_n hx hb dX5_isAble_41 rfl (lv_at hl 1 rfl) ?_
              refine va_get (D := D) (ci := 5) (v := .ref a_absentFrom) (C := RX5) (T := TX5) (N := 8) hx hb hts in_e_isAble_X5 hown hK.1 hP 0 rfl rfl 4 (by decide) lk3 (fun _ h9 => h9) rfl dX5_isAble_42 ?_
              refine lv_iload_n hx hb dX5_isAble_45 rfl (lv_at hl 0 rfl) ?_
              refine va_iald hx hb hK.1 hP 3 0 rfl rfl (t_in (by omega) (by omega)) dX5_isAble_46 ?_
              refine lv_topi (fun yf eyf => ?_)
              refine lv_aload_n hx hb dX5_isAble_47 rfl (lv_at hl 1 rfl) ?_
              refine va_get (D := D) (ci := 5) (v := .ref a_absentTo) (C := RX5) (T := TX5) (N := 8) hx hb hts in_e_isAble_X5 hown hK.1 hP 0 rfl rfl 5 (by decide) lk4 (fun _ h9 => h9) rfl dX5_isAble_48 ?_
              refine lv_iload_n hx hb dX5_isAble_51 rfl (lv_at hl 0 rfl) ?_
              refine va_iald hx hb hK.1 hP 4 0 rfl rfl (t_in (by omega) (by omega)) dX5_isAble_52 ?_
              refine lv_topi (fun yt eyt => ?_)
              have hPc := hP.sub (ws' := []) [] rfl
              refine roSN (As := [.int d, .int yf, .int yt]) (rest := []) S (w_within  ) (⟨va_cnB 3 hts gX5_isAble_X11_within_n42 rfl rfl rfl (hK.2.1 _ (List.mem_of_getElem? (i := 10) rfl)) lk5 (by decide +kernel) ⟨Nat.le_of_ble_eq_true rfl, Nat.le_of_ble_eq_true rfl⟩, lk6, trivial⟩) hK hPc rfl hl.1 rfl (Nat.le_of_ble_eq_true rfl) dX5_isAble_53 ⟨Nat.le_of_ble_eq_true rfl, Nat.le_of_ble_eq_true rfl⟩ (fun r_11 hw_11 => ?_)
              have hw_11 : (r_11.toInt = 1 ∧ yf.toInt ≤ d.toInt ∧ d.toInt ≤ yt.toInt) ∨ (r_11.toInt = 0 ∧ (d.toInt < yf.toInt ∨ yt.toInt < d.toInt)) := hw_11
              refine lv_if_eq (tgt := 61) hx hb dX5_isAble_56 (by decide) (fun c_12 => ?_) (fun c_12 => ?_)
              · have tc_12 := t_eq c_12
                obtain ⟨x_13, ex_13⟩ : ∃ y : Int32, y = j + 1 := ⟨_, rfl⟩
                refine lv_iinc (v := x_13) (lv' := [(3, .int x_13), (0, .ref h), (1, .int i), (2, .int d)]) hx hb dX5_isAble_61 hl (k := 0) rfl (by rw [ex_13]; rfl) (by decide) rfl (fun ls hl => ?_)
                first | have tx_13 := t_add ex_13 (by omega) (by omega) | skip
                refine lv_goto (tgt := 22) hx hb dX5_isAble_64 (by decide) ?_
                exact ih22 x_13 (by omega) (by omega) (by omega) (hal.up (i := j) (by omega) (fun h => by have h1 := h.1; have h2 := h.2; rw [← eya] at h1; first | (have := t_eq h1; omega) | (rw [← eyf, ← eyt] at h2; omega)) (by omega)) ls (lv_sub hl [0, 1, 2, 3] rfl)
              · have tc_12 := t_neq c_12
                refine lv_iconst (v := 0) hx hb dX5_isAble_59 (by decide) ?_
                exact hret 0 _ _ (show ((0 : Int32).toInt = 1 ∧ AbleP f_cameOn f_absent f_absentFrom f_absentTo v_rows.toInt i d) ∨ ((0 : Int32).toInt = 0 ∧ ¬ AbleP f_cameOn f_absent f_absentFrom f_absentTo v_rows.toInt i d) from Or.inr ⟨by omega, fun h => Al.no (i := j) (by omega) (by omega) (fun q => q ⟨by rw [← eya]; exact i32_ext (by omega), by rw [← eyf]; omega, by rw [← eyt]; omega⟩) h.2⟩) rfl dX5_isAble_60
      exact loop22 ((v_rows.toInt - (0 : Int32).toInt).toNat + 1) 0 (by omega) (by omega) (by omega) (Al.zero (by omega)) ls (lv_sub hl [0, 1, 2, 3] rfl)
    · have tc_4 := t_nle c_4
      refine lv_iconst (v := 0) hx hb dX5_isAble_18 (by decide) ?_
      exact hret 0 _ _ (show ((0 : Int32).toInt = 1 ∧ AbleP f_cameOn f_absent f_absentFrom f_absentTo v_rows.toInt i d) ∨ ((0 : Int32).toInt = 0 ∧ ¬ AbleP f_cameOn f_absent f_absentFrom f_absentTo v_rows.toInt i d) from Or.inr ⟨by omega, fun h => by have h1 := h.1; rw [← eyc] at h1; omega⟩) rfl dX5_isAble_19

theorem in_e_isBarred_X5 : ∀ w ∈ wsX50, w ∈ wsX5_isBarred := tl_X5_isBarred_X5
set_option maxHeartbeats 8000000 in
set_option maxRecDepth 100000 in
theorem e_isBarred {l : Launch} {D : va_G} {cI cZ cB : ClassId} {h a_priests a_barred a_cameOn a_absent a_absentFrom a_absentTo : Nat} {v_size v_rows : Int32} {f_barred : Nat → Int32} {i k : Int32} (hv_size0 : 0 ≤ v_size.toInt) (hv_size1 : v_size.toInt ≤ 24) (hi0 : 0 ≤ i.toInt) (hi1 : i.toInt < v_size.toInt) : Met l yX5_isBarred wsX5_isBarred ({ frames := 1, cells := 0, slots := 0, locals := 21 }) (RO D cI cZ cB [.ref h, .int i, .int k] [(h, .inr (5, [.ref a_priests, .ref a_barred, .ref a_cameOn, .ref a_absent, .ref a_absentFrom, .ref a_absentTo, .int v_size, .int v_rows])), (a_barred, .inl (cI, 24, .inl f_barred))]) (vp_Si (fun r : Int32 => (r.toInt = 1 ∧ BarP f_barred k i) ∨ (r.toInt = 0 ∧ ¬ BarP f_barred k i))) 0 0 (fun _ => False) := by
  refine ro_ret (cc := cX5_isBarred) (maxL := 3) (ty := .boolean) (own := RX5) (by decide) rfl rfl (Nat.le_of_ble_eq_true rfl) ?_
  intro p e s m args below meth c Q S hret hP hK ls hl
  obtain ⟨hx, hb, hml, hown, hts⟩ := id S
  have hl : lv_has ls 3 [(0, .ref h), (1, .int i), (2, .int k)] := hl
  have kk0 : (0 : Int32).toInt = 0 := by decide
  have kk1 : (1 : Int32).toInt = 1 := by decide
  have lk0 := hts (.fieldLink RX5 15 "AbbeyHours$Monks" "barred" "[I") (List.mem_cons_of_mem _ (List.mem_append_left _ (List.mem_of_getElem? (i := 0) rfl)))
  refine lv_aload_n hx hb dX5_isBarred_0 rfl (lv_at hl 0 rfl) ?_
  refine lv_iload_n hx hb dX5_isBarred_1 rfl (lv_at hl 1 rfl) ?_
  have hPc := hP.sub (ws' := [(h, .inr (5, [.ref a_priests, .ref a_barred, .ref a_cameOn, .ref a_absent, .ref a_absentFrom, .ref a_absentTo, .int v_size, .int v_rows]))]) [0] rfl
  refine roV (As := [.int i]) (rest := []) S (k_has  ) (cwV 1 hts gX5_isBarred_X5_has rfl rfl rfl ⟨rfl, hd_X5_has⟩ ⟨Nat.le_of_ble_eq_true rfl, Nat.le_of_ble_eq_true rfl⟩) hK hPc (va_recv hK.1 hPc (ci := 5) (q0 := 0) rfl rfl) rfl hl.1 rfl (Nat.le_of_ble_eq_true rfl) dX5_isBarred_2 ⟨Nat.le_of_ble_eq_true rfl, Nat.le_of_ble_eq_true rfl⟩ (fun r_1 hw_1 => ?_)
  have hw_1 : (r_1.toInt = 1 ∧ 0 ≤ i.toInt ∧ i.toInt < v_size.toInt) ∨ (r_1.toInt = 0 ∧ (i.toInt < 0 ∨ v_size.toInt ≤ i.toInt)) := hw_1
  refine lv_if_eq (tgt := 26) hx hb dX5_isBarred_5 (by decide) (fun c_2 => ?_) (fun c_2 => ?_)
  · have tc_2 := t_eq c_2
    exfalso; omega
  · have tc_2 := t_neq c_2
    refine lv_aload_n hx hb dX5_isBarred_8 rfl (lv_at hl 0 rfl) ?_
    refine va_get (D := D) (ci := 5) (v := .ref a_barred) (C := RX5) (T := TX5) (N := 8) hx hb hts in_e_isBarred_X5 hown hK.1 hP 0 rfl rfl 1 (by decide) lk0 (fun _ h9 => h9) rfl dX5_isBarred_9 ?_
    refine lv_iload_n hx hb dX5_isBarred_12 rfl (lv_at hl 1 rfl) ?_
    refine va_iald hx hb hK.1 hP 1 0 rfl rfl (t_in (by omega) (by omega)) dX5_isBarred_13 ?_
    refine lv_topi (fun yb eyb => ?_)
    refine lv_iload_n hx hb dX5_isBarred_14 rfl (lv_at hl 2 rfl) ?_
    refine lv_ishr hx hb dX5_isBarred_15 ?_
    refine lv_topi (fun ys eys => ?_)
    refine lv_iconst (v := 1) hx hb dX5_isBarred_16 (by decide) ?_
    refine lv_iand hx hb dX5_isBarred_17 ?_
    refine lv_topi (fun ya eya => ?_)
    refine lv_iconst (v := 1) hx hb dX5_isBarred_18 (by decide) ?_
    refine lv_icmp_ne (tgt := 26) hx hb dX5_isBarred_19 (by decide) (fun cc => ?_) (fun cc => ?_)
    · have tcc := t_neq cc
      refine lv_iconst (v := 0) hx hb dX5_isBarred_26 (by decide) ?_
      exact hret 0 _ _ (show ((0 : Int32).toInt = 1 ∧ BarP f_barred k i) ∨ ((0 : Int32).toInt = 0 ∧ ¬ BarP f_barred k i) from by first | exact Or.inl ⟨by omega, by unfold BarP; rw [← eyb, ← eys, ← eya]; exact cc⟩ | exact Or.inr ⟨by omega, by unfold BarP; rw [← eyb, ← eys, ← eya]; exact cc⟩) rfl dX5_isBarred_27
    · have tcc := t_eq cc
      refine lv_iconst (v := 1) hx hb dX5_isBarred_22 (by decide) ?_
      refine lv_goto (tgt := 27) hx hb dX5_isBarred_23 (by decide) ?_
      exact hret 1 _ _ (show ((1 : Int32).toInt = 1 ∧ BarP f_barred k i) ∨ ((1 : Int32).toInt = 0 ∧ ¬ BarP f_barred k i) from by first | exact Or.inl ⟨by omega, by unfold BarP; rw [← eyb, ← eys, ← eya]; exact cc⟩ | exact Or.inr ⟨by omega, by unfold BarP; rw [← eyb, ← eys, ← eya]; exact cc⟩) rfl dX5_isBarred_27

theorem in_e_at_X1 : ∀ w ∈ wsX10, w ∈ wsX1_at := tl_X1_at_X1
set_option maxHeartbeats 8000000 in
set_option maxRecDepth 100000 in
theorem e_at {l : Launch} {D : va_G} {cI cZ cB : ClassId} {h ac L : Nat} {fc : Nat → Int32} {d k : Int32} (hL : L < 65536) (hd : (d.toInt + 1) * 4 ≤ L) (hd0 : 0 ≤ d.toInt) (hd1 : d.toInt ≤ 1094) (hk0 : 0 ≤ k.toInt) (hk1 : k.toInt < 4) : Met l yX1_at wsX1_at ({ frames := 1, cells := 0, slots := 0, locals := 22 }) (RO D cI cZ cB [.ref h, .int d, .int k] [(h, .inr (1, [.int 4, .ref ac])), (ac, .inl (cI, L, .inl fc))]) (vp_Si (fun r : Int32 => r = fc (4 * d.toNatClampNeg + k.toNatClampNeg))) 0 0 (fun _ => False) := by
  refine ro_ret (cc := cX1_at) (maxL := 3) (ty := .int) (own := RX1) (by decide) rfl rfl (Nat.le_of_ble_eq_true rfl) ?_
  intro p e s m args below meth c Q S hret hP hK ls hl
  obtain ⟨hx, hb, hml, hown, hts⟩ := id S
  have hl : lv_has ls 3 [(0, .ref h), (1, .int d), (2, .int k)] := hl
  have kkm1 : (-1 : Int32).toInt = -1 := by decide
  have kk0 : (0 : Int32).toInt = 0 := by decide
  have kk4 : (4 : Int32).toInt = 4 := by decide
  have lk0 := hts (.fieldLink RX1 15 "AbbeyHours$DayTable" "width" "I") (List.mem_cons_of_mem _ (List.mem_append_left _ (List.mem_of_getElem? (i := 0) rfl)))
  have lk1 := hts (.fieldLink RX1 21 "AbbeyHours$DayTable" "cells" "[I") (List.mem_cons_of_mem _ (List.mem_append_left _ (List.mem_of_getElem? (i := 1) rfl)))
  refine lv_aload_n hx hb dX1_at_0 rfl (lv_at hl 0 rfl) ?_
  refine lv_iload_n hx hb dX1_at_1 rfl (lv_at hl 1 rfl) ?_
  refine lv_iload_n hx hb dX1_at_2 rfl (lv_at hl 2 rfl) ?_
  have hPc := hP.sub (ws' := [(h, .inr (1, [.int 4, .ref ac]))]) [0] rfl
  refine roV (As := [.int d, .int k]) (rest := []) S (d4_isCell  ) (cwV 2 hts gX1_at_X1_isCell rfl rfl rfl ⟨rfl, hd_X1_isCell⟩ ⟨Nat.le_of_ble_eq_true rfl, Nat.le_of_ble_eq_true rfl⟩) hK hPc (va_recv hK.1 hPc (ci := 1) (q0 := 0) rfl rfl) rfl hl.1 rfl (Nat.le_of_ble_eq_true rfl) dX1_at_3 ⟨Nat.le_of_ble_eq_true rfl, Nat.le_of_ble_eq_true rfl⟩ (fun r_1 hw_1 => ?_)
  have hw_1 : (r_1.toInt = 1 ∧ 0 ≤ d.toInt ∧ d.toInt < 1095 ∧ 0 ≤ k.toInt ∧ k.toInt < 4) ∨ (r_1.toInt = 0 ∧ (d.toInt < 0 ∨ 1095 ≤ d.toInt ∨ k.toInt < 0 ∨ 4 ≤ k.toInt)) := hw_1
  refine lv_if_eq (tgt := 41) hx hb dX1_at_6 (by decide) (fun c_2 => ?_) (fun c_2 => ?_)
  · have tc_2 := t_eq c_2
    exfalso; omega
  · have tc_2 := t_neq c_2
    refine lv_iload_n hx hb dX1_at_9 rfl (lv_at hl 1 rfl) ?_
    refine lv_aload_n hx hb dX1_at_10 rfl (lv_at hl 0 rfl) ?_
    refine va_get (D := D) (ci := 1) (v := .int 4) (C := RX1) (T := TX1) (N := 2) hx hb hts in_e_at_X1 hown hK.1 hP 0 rfl rfl 0 (by decide) lk0 (fun _ h9 => h9) rfl dX1_at_11 ?_
    refine lv_imul hx hb dX1_at_14 ?_
    refine lv_topi (fun x_3 ex_3 => ?_)
    first | have tx_3 := t_mulK kk4 ex_3 (by omega) (by omega) | skip
    refine lv_iload_n hx hb dX1_at_15 rfl (lv_at hl 2 rfl) ?_
    refine lv_iadd hx hb dX1_at_16 ?_
    refine lv_topi (fun x_4 ex_4 => ?_)
    first | have tx_4 := t_add ex_4 (by omega) (by omega) | skip
    refine lv_aload_n hx hb dX1_at_17 rfl (lv_at hl 0 rfl) ?_
    refine va_get (D := D) (ci := 1) (v := .ref ac) (C := RX1) (T := TX1) (N := 2) hx hb hts in_e_at_X1 hown hK.1 hP 0 rfl rfl 1 (by decide) lk1 (fun _ h9 => h9) rfl dX1_at_18 ?_
    refine va_alen hx hb hK.1 hP 1 0 rfl rfl rfl dX1_at_21 ?_
    refine lv_topi (fun x_5 ex_5 => ?_)
    have tx_5 : x_5.toInt = L := by rw [ex_5]; exact nI_toInt (by omega)
    refine lv_icmp_ge (tgt := 41) hx hb dX1_at_22 (by decide) (fun c_6 => ?_) (fun c_6 => ?_)
    · have tc_6 := t_le c_6
      exfalso; omega
    · have tc_6 := t_nle c_6
      refine lv_aload_n hx hb dX1_at_25 rfl (lv_at hl 0 rfl) ?_
      refine va_get (D := D) (ci := 1) (v := .ref ac) (C := RX1) (T := TX1) (N := 2) hx hb hts in_e_at_X1 hown hK.1 hP 0 rfl rfl 1 (by decide) lk1 (fun _ h9 => h9) rfl dX1_at_26 ?_
      refine lv_iload_n hx hb dX1_at_29 rfl (lv_at hl 1 rfl) ?_
      refine lv_aload_n hx hb dX1_at_30 rfl (lv_at hl 0 rfl) ?_
      refine va_get (D := D) (ci := 1) (v := .int 4) (C := RX1) (T := TX1) (N := 2) hx hb hts in_e_at_X1 hown hK.1 hP 0 rfl rfl 0 (by decide) lk0 (fun _ h9 => h9) rfl dX1_at_31 ?_
      refine lv_imul hx hb dX1_at_34 ?_
      refine lv_topi (fun x_7 ex_7 => ?_)
      first | have tx_7 := t_mulK kk4 ex_7 (by omega) (by omega) | skip
      refine lv_iload_n hx hb dX1_at_35 rfl (lv_at hl 2 rfl) ?_
      refine lv_iadd hx hb dX1_at_36 ?_
      refine lv_topi (fun ix eix => ?_)
      first | have tix := t_add eix (by omega) (by omega) | skip
      refine va_iald hx hb hK.1 hP 1 0 rfl rfl (t_in (by omega) (by omega)) dX1_at_37 ?_
      refine lv_topi (fun yv eyv => ?_)
      refine lv_goto (tgt := 42) hx hb dX1_at_38 (by decide) ?_
      exact hret yv _ _ (show yv = fc (4 * d.toNatClampNeg + k.toNatClampNeg) from by rw [eyv, ix4 (i := d) (k := k) (by omega) (by omega) (by omega)]) rfl dX1_at_42

theorem in_e_holder_X2 : ∀ w ∈ wsX20, w ∈ wsX2_holder := tl_X2_holder_X2
set_option maxHeartbeats 8000000 in
set_option maxRecDepth 100000 in
theorem e_holder {l : Launch} {D : va_G} {cI cZ cB : ClassId} {h a_holders a_taken ac L : Nat} {fc : Nat → Int32} {d k : Int32} (hL : L < 65536) (hd : (d.toInt + 1) * 4 ≤ L) (hd0 : 0 ≤ d.toInt) (hd1 : d.toInt ≤ 1094) (hk0 : 0 ≤ k.toInt) (hk1 : k.toInt < 4) : Met l yX2_holder wsX2_holder ({ frames := 2, cells := 0, slots := 0, locals := 44 }) (RO D cI cZ cB [.ref h, .int d, .int k] [(h, .inr (2, [.ref a_holders, .ref a_taken])), (a_holders, .inr (1, [.int 4, .ref ac])), (ac, .inl (cI, L, .inl fc))]) (vp_Si (fun r : Int32 => r = fc (4 * d.toNatClampNeg + k.toNatClampNeg))) 0 0 (fun _ => False) := by
  refine ro_ret (cc := cX2_holder) (maxL := 3) (ty := .int) (own := RX2) (by decide) rfl rfl (Nat.le_of_ble_eq_true rfl) ?_
  intro p e s m args below meth c Q S hret hP hK ls hl
  obtain ⟨hx, hb, hml, hown, hts⟩ := id S
  have hl : lv_has ls 3 [(0, .ref h), (1, .int d), (2, .int k)] := hl
  have kk0 : (0 : Int32).toInt = 0 := by decide
  have lk0 := hts (.fieldLink RX2 14 "AbbeyHours$Duties" "holders" "LAbbeyHours$DayTable;") (List.mem_cons_of_mem _ (List.mem_append_left _ (List.mem_append_left _ (List.mem_of_getElem? (i := 0) rfl))))
  refine lv_aload_n hx hb dX2_holder_0 rfl (lv_at hl 0 rfl) ?_
  refine va_get (D := D) (ci := 2) (v := .ref a_holders) (C := RX2) (T := TX2) (N := 2) hx hb hts in_e_holder_X2 hown hK.1 hP 0 rfl rfl 0 (by decide) lk0 (fun _ h9 => h9) rfl dX2_holder_1 ?_
  refine lv_iload_n hx hb dX2_holder_4 rfl (lv_at hl 1 rfl) ?_
  refine lv_iload_n hx hb dX2_holder_5 rfl (lv_at hl 2 rfl) ?_
  have hPc := hP.sub (ws' := [(a_holders, .inr (1, [.int 4, .ref ac])), (ac, .inl (cI, L, .inl fc))]) [1, 2] rfl
  refine roV (As := [.int d, .int k]) (rest := []) S (e_at  (by omega) (by omega) (by omega) (by omega) (by omega) (by omega)) (cwV 2 hts gX2_holder_X1_at rfl rfl rfl ⟨rfl, hd_X1_at⟩ ⟨Nat.le_of_ble_eq_true rfl, Nat.le_of_ble_eq_true rfl⟩) hK hPc (va_recv hK.1 hPc (ci := 1) (q0 := 0) rfl rfl) rfl hl.1 rfl (Nat.le_of_ble_eq_true rfl) dX2_holder_6 ⟨Nat.le_of_ble_eq_true rfl, Nat.le_of_ble_eq_true rfl⟩ (fun r_ho hw_ho => ?_)
  have hw_ho : r_ho = fc (4 * d.toNatClampNeg + k.toNatClampNeg) := hw_ho
  exact hret r_ho _ _ (show r_ho = fc (4 * d.toNatClampNeg + k.toNatClampNeg) from hw_ho) rfl dX2_holder_9

set_option maxHeartbeats 8000000 in
set_option maxRecDepth 100000 in
theorem e_isFree {l : Launch} {D : va_G} {cI cZ cB : ClassId} {h a_holders a_taken ac L : Nat} {fc : Nat → Int32} {i d : Int32} (hL : L < 65536) (hd : (d.toInt + 1) * 4 ≤ L) (hd0 : 0 ≤ d.toInt) (hd1 : d.toInt ≤ 1094) : Met l yX2_isFree wsX2_isFree ({ frames := 3, cells := 0, slots := 0, locals := 66 }) (RO D cI cZ cB [.ref h, .int i, .int d] [(h, .inr (2, [.ref a_holders, .ref a_taken])), (a_holders, .inr (1, [.int 4, .ref ac])), (ac, .inl (cI, L, .inl fc))]) (vp_Si (fun r : Int32 => (r.toInt = 1 ∧ FreeP fc d i) ∨ (r.toInt = 0 ∧ ¬ FreeP fc d i))) 0 0 (fun _ => False) := by
  refine ro_ret (cc := cX2_isFree) (maxL := 4) (ty := .boolean) (own := RX2) (by decide) rfl rfl (Nat.le_of_ble_eq_true rfl) ?_
  intro p e s m args below meth c Q S hret hP hK ls hl
  obtain ⟨hx, hb, hml, hown, hts⟩ := id S
  have hl : lv_has ls 4 [(0, .ref h), (1, .int i), (2, .int d)] := hl
  have kk0 : (0 : Int32).toInt = 0 := by decide
  have kk1 : (1 : Int32).toInt = 1 := by decide
  have kk4 : (4 : Int32).toInt = 4 := by decide
  refine lv_iconst (v := 0) hx hb dX2_isFree_0 (by decide) ?_
  refine lv_istore_n (lv' := [(3, .int 0), (0, .ref h), (1, .int i), (2, .int d)]) hx hb dX2_isFree_1 rfl hl (by decide) rfl (fun ls hl => ?_)
  have loop2 : ∀ (fuel : Nat) (j : Int32), 4 - j.toInt < (fuel : Int) → (0 ≤ j.toInt) → (j.toInt ≤ 4) → (Al (fun q => ¬ fc (4 * d.toNatClampNeg + q) = i) j.toInt) → ∀ ls : Array Slot, lv_has ls 4 [(3, .int j), (0, .ref h), (1, .int i), (2, .int d)] → W p l e ({ frames := 3, cells := 0, slots := 0, locals := 66 } : Room) s m args below meth c s.heap [] 0 0 Q (F0 m 2 ls []) := by
    intro fuel
    induction fuel with
    | zero =>
      intro j hmu hj0 hj1 hal ls hl
      exfalso; omega
    | succ fuel ih2 =>
      intro j hmu hj0 hj1 hal ls hl
      refine lv_iload_n hx hb dX2_isFree_2 rfl (lv_at hl 0 rfl) ?_
      refine lv_iconst (v := 4) hx hb dX2_isFree_3 (by decide) ?_
      refine lv_icmp_ge (tgt := 25) hx hb dX2_isFree_4 (by decide) (fun c_1 => ?_) (fun c_1 => ?_)
      · have tc_1 := t_le c_1
        refine lv_iconst (v := 1) hx hb dX2_isFree_25 (by decide) ?_
        exact hret 1 _ _ (show ((1 : Int32).toInt = 1 ∧ FreeP fc d i) ∨ ((1 : Int32).toInt = 0 ∧ ¬ FreeP fc d i) from Or.inl ⟨by omega, hal.to (by omega)⟩) rfl dX2_isFree_26
      · have tc_1 := t_nle c_1
        refine lv_aload_n hx hb dX2_isFree_7 rfl (lv_at hl 1 rfl) ?_
        refine lv_iload_n hx hb dX2_isFree_8 rfl (lv_at hl 3 rfl) ?_
        refine lv_iload_n hx hb dX2_isFree_9 rfl (lv_at hl 0 rfl) ?_
        have hPc := hP.sub (ws' := [(h, .inr (2, [.ref a_holders, .ref a_taken])), (a_holders, .inr (1, [.int 4, .ref ac])), (ac, .inl (cI, L, .inl fc))]) [0, 1, 2] rfl
        refine roV (As := [.int d, .int j]) (rest := []) S (e_holder  (by omega) (by omega) (by omega) (by omega) (by omega) (by omega)) (cwV 2 hts gX2_isFree_X2_holder rfl rfl rfl ⟨rfl, hd_X2_holder⟩ ⟨Nat.le_of_ble_eq_true rfl, Nat.le_of_ble_eq_true rfl⟩) hK hPc (va_recv hK.1 hPc (ci := 2) (q0 := 0) rfl rfl) rfl hl.1 rfl (Nat.le_of_ble_eq_true rfl) dX2_isFree_10 ⟨Nat.le_of_ble_eq_true rfl, Nat.le_of_ble_eq_true rfl⟩ (fun r_ho hw_ho => ?_)
        have hw_ho : r_ho = fc (4 * d.toNatClampNeg + j.toNatClampNeg) := hw_ho
        refine lv_iload_n hx hb dX2_isFree_13 rfl (lv_at hl 2 rfl) ?_
        refine lv_icmp_ne (tgt := 19) hx hb dX2_isFree_14 (by decide) (fun cc => ?_) (fun cc => ?_)
        · have tcc := t_neq cc
          obtain ⟨x_3, ex_3⟩ : ∃ y : Int32, y = j + 1 := ⟨_, rfl⟩
          refine lv_iinc (v := x_3) (lv' := [(3, .int x_3), (0, .ref h), (1, .int i), (2, .int d)]) hx hb dX2_isFree_19 hl (k := 0) rfl (by rw [ex_3]; rfl) (by decide) rfl (fun ls hl => ?_)
          first | have tx_3 := t_add ex_3 (by omega) (by omega) | skip
          refine lv_goto (tgt := 2) hx hb dX2_isFree_22 (by decide) ?_
          exact ih2 x_3 (by omega) (by omega) (by omega) (hal.up (i := j) (by omega) (fun h => cc (hw_ho.trans h)) (by omega)) ls (lv_sub hl [0, 1, 2, 3] rfl)
        · have tcc := t_eq cc
          refine lv_iconst (v := 0) hx hb dX2_isFree_17 (by decide) ?_
          exact hret 0 _ _ (show ((0 : Int32).toInt = 1 ∧ FreeP fc d i) ∨ ((0 : Int32).toInt = 0 ∧ ¬ FreeP fc d i) from Or.inr ⟨by omega, Al.no (i := j) (by omega) (by omega) (fun h => h (hw_ho.symm.trans cc))⟩) rfl dX2_isFree_18
  exact loop2 ((4 - (0 : Int32).toInt).toNat + 1) 0 (by omega) (by omega) (by omega) (Al.zero (by omega)) ls (lv_sub hl [0, 1, 2, 3] rfl)

theorem in_e_taken_X2 : ∀ w ∈ wsX20, w ∈ wsX2_turnsTaken := tl_X2_turnsTaken_X2
set_option maxHeartbeats 8000000 in
set_option maxRecDepth 100000 in
theorem e_taken {l : Launch} {D : va_G} {cI cZ cB : ClassId} {h a_holders a_taken : Nat} {ft : Nat → Int32} {i k : Int32} (hi0 : 0 ≤ i.toInt) (hi1 : i.toInt < 24) (hk0 : 0 ≤ k.toInt) (hk1 : k.toInt < 4) : Met l yX2_turnsTaken wsX2_turnsTaken ({ frames := 0, cells := 0, slots := 0, locals := 0 }) (RO D cI cZ cB [.ref h, .int i, .int k] [(h, .inr (2, [.ref a_holders, .ref a_taken])), (a_taken, .inl (cI, 96, .inl ft))]) (vp_Si (fun r : Int32 => r = ft (4 * i.toNatClampNeg + k.toNatClampNeg))) 0 0 (fun _ => False) := by
  refine ro_ret (cc := cX2_turnsTaken) (maxL := 3) (ty := .int) (own := RX2) (by decide) rfl rfl (Nat.le_of_ble_eq_true rfl) ?_
  intro p e s m args below meth c Q S hret hP hK ls hl
  obtain ⟨hx, hb, hml, hown, hts⟩ := id S
  have hl : lv_has ls 3 [(0, .ref h), (1, .int i), (2, .int k)] := hl
  have kk0 : (0 : Int32).toInt = 0 := by decide
  have kk4 : (4 : Int32).toInt = 4 := by decide
  have lk0 := hts (.fieldLink RX2 22 "AbbeyHours$Duties" "taken" "[I") (List.mem_cons_of_mem _ (List.mem_append_left _ (List.mem_of_getElem? (i := 0) rfl)))
  refine lv_aload_n hx hb dX2_turnsTaken_0 rfl (lv_at hl 0 rfl) ?_
  refine va_get (D := D) (ci := 2) (v := .ref a_taken) (C := RX2) (T := TX2) (N := 2) hx hb hts in_e_taken_X2 hown hK.1 hP 0 rfl rfl 1 (by decide) lk0 (fun _ h9 => h9) rfl dX2_turnsTaken_1 ?_
  refine lv_iload_n hx hb dX2_turnsTaken_4 rfl (lv_at hl 1 rfl) ?_
  refine lv_iconst (v := 4) hx hb dX2_turnsTaken_5 (by decide) ?_
  refine lv_imul hx hb dX2_turnsTaken_6 ?_
  refine lv_topi (fun x_1 ex_1 => ?_)
  first | have tx_1 := t_mulK kk4 ex_1 (by omega) (by omega) | skip
  refine lv_iload_n hx hb dX2_turnsTaken_7 rfl (lv_at hl 2 rfl) ?_
  refine lv_iadd hx hb dX2_turnsTaken_8 ?_
  refine lv_topi (fun ix eix => ?_)
  first | have tix := t_add eix (by omega) (by omega) | skip
  refine va_iald hx hb hK.1 hP 1 0 rfl rfl (t_in (by omega) (by omega)) dX2_turnsTaken_9 ?_
  refine lv_topi (fun yv eyv => ?_)
  exact hret yv _ _ (show yv = ft (4 * i.toNatClampNeg + k.toNatClampNeg) from by rw [eyv, ix4 (i := i) (k := k) (by omega) (by omega) (by omega)]) rfl dX2_turnsTaken_10

set_option maxHeartbeats 8000000 in
set_option maxRecDepth 100000 in
theorem e_choose {l : Launch} {D : va_G} {cI cZ cB : ClassId} {h a_holders a_taken ac L hm ma_priests ma_barred ma_cameOn ma_absent ma_absentFrom ma_absentTo : Nat} {mv_size mv_rows : Int32} {fc ft mf_barred mf_cameOn mf_absent mf_absentFrom mf_absentTo : Nat → Int32} {d k : Int32} (hL : L < 65536) (hmv_size0 : 0 ≤ mv_size.toInt) (hmv_size1 : mv_size.toInt ≤ 24) (hmv_rows0 : 0 ≤ mv_rows.toInt) (hmv_rows1 : mv_rows.toInt ≤ 60) (hk0 : 0 ≤ k.toInt) (hk1 : k.toInt < 4) (hd : (d.toInt + 1) * 4 ≤ L) (hd0 : 0 ≤ d.toInt) (hd1 : d.toInt ≤ 1094) : Met l yX2_choose wsX2_choose ({ frames := 4, cells := 0, slots := 0, locals := 89 }) (RO D cI cZ cB [.ref h, .ref hm, .int d, .int k] [(h, .inr (2, [.ref a_holders, .ref a_taken])), (a_holders, .inr (1, [.int 4, .ref ac])), (ac, .inl (cI, L, .inl fc)), (a_taken, .inl (cI, 96, .inl ft)), (hm, .inr (5, [.ref ma_priests, .ref ma_barred, .ref ma_cameOn, .ref ma_absent, .ref ma_absentFrom, .ref ma_absentTo, .int mv_size, .int mv_rows])), (ma_barred, .inl (cI, 24, .inl mf_barred)), (ma_cameOn, .inl (cI, 24, .inl mf_cameOn)), (ma_absent, .inl (cI, 60, .inl mf_absent)), (ma_absentFrom, .inl (cI, 60, .inl mf_absentFrom)), (ma_absentTo, .inl (cI, 60, .inl mf_absentTo))]) (vp_Si (fun r : Int32 => IsPick (okS mf_barred mf_cameOn mf_absent mf_absentFrom mf_absentTo mv_rows.toInt d fc k) (keyD ft k) mv_size.toInt r)) 0 0 (fun _ => False) := by
  refine ro_ret (cc := cX2_choose) (maxL := 7) (ty := .int) (own := RX2) (by decide) rfl rfl (Nat.le_of_ble_eq_true rfl) ?_
  intro p e s m args below meth c Q S hret hP hK ls hl
  obtain ⟨hx, hb, hml, hown, hts⟩ := id S
  have hl : lv_has ls 7 [(0, .ref h), (1, .ref hm), (2, .int d), (3, .int k)] := hl
  have kkm1 : (-1 : Int32).toInt = -1 := by decide
  have kk0 : (0 : Int32).toInt = 0 := by decide
  have kk1 : (1 : Int32).toInt = 1 := by decide
  refine lv_iconst (v := (-1)) hx hb dX2_choose_0 (by decide) ?_
  refine lv_istore (lv' := [(4, .int (-1)), (0, .ref h), (1, .ref hm), (2, .int d), (3, .int k)]) hx hb dX2_choose_1 hl (by decide) rfl (fun ls hl => ?_)
  refine lv_iconst (v := 0) hx hb dX2_choose_3 (by decide) ?_
  refine lv_istore (lv' := [(5, .int 0), (4, .int (-1)), (0, .ref h), (1, .ref hm), (2, .int d), (3, .int k)]) hx hb dX2_choose_4 hl (by decide) rfl (fun ls hl => ?_)
  have loop6 : ∀ (fuel : Nat) (a : Int32) (j : Int32), mv_size.toInt - j.toInt < (fuel : Int) → (0 ≤ j.toInt) → (j.toInt ≤ mv_size.toInt) → (IsPick (okS mf_barred mf_cameOn mf_absent mf_absentFrom mf_absentTo mv_rows.toInt d fc k) (keyD ft k) j.toInt a) → ∀ ls : Array Slot, lv_has ls 7 [(5, .int j), (4, .int a), (0, .ref h), (1, .ref hm), (2, .int d), (3, .int k)] → W p l e ({ frames := 4, cells := 0, slots := 0, locals := 89 } : Room) s m args below meth c s.heap [] 0 0 Q (F0 m 6 ls []) := by
    intro fuel
    induction fuel with
    | zero =>
      intro a j hmu hj0 hj1 hpk ls hl
      exfalso; omega
    | succ fuel ih6 =>
      intro a j hmu hj0 hj1 hpk ls hl
      have ha := hpk.rg
      refine lv_iload hx hb dX2_choose_6 (lv_at hl 0 rfl) ?_
      refine lv_aload_n hx hb dX2_choose_8 rfl (lv_at hl 3 rfl) ?_
      have hPc := hP.sub (ws' := [(hm, .inr (5, [.ref ma_priests, .ref ma_barred, .ref ma_cameOn, .ref ma_absent, .ref ma_absentFrom, .ref ma_absentTo, .int mv_size, .int mv_rows]))]) [4] rfl
      refine roV (As := []) (rest := [.int j]) S (k_size  ) (cwV 0 hts gX2_choose_X5_size rfl rfl rfl ⟨rfl, hd_X5_size⟩ ⟨Nat.le_of_ble_eq_true rfl, Nat.le_of_ble_eq_true rfl⟩) hK hPc (va_recv hK.1 hPc (ci := 5) (q0 := 0) rfl rfl) rfl hl.1 rfl (Nat.le_of_ble_eq_true rfl) dX2_choose_9 ⟨Nat.le_of_ble_eq_true rfl, Nat.le_of_ble_eq_true rfl⟩ (fun r_1 hw_1 => ?_)
      have hw_1 : r_1 = mv_size := hw_1
      have hw_1 := t_eq hw_1
      refine lv_icmp_ge (tgt := 90) hx hb dX2_choose_12 (by decide) (fun c_2 => ?_) (fun c_2 => ?_)
      · have tc_2 := t_le c_2
        refine lv_iload hx hb dX2_choose_90 (lv_at hl 1 rfl) ?_
        exact hret a _ _ (show IsPick (okS mf_barred mf_cameOn mf_absent mf_absentFrom mf_absentTo mv_rows.toInt d fc k) (keyD ft k) mv_size.toInt a from by rw [show mv_size.toInt = j.toInt by omega]; exact hpk) rfl dX2_choose_92
      · have tc_2 := t_nle c_2
        refine lv_iload hx hb dX2_choose_15 (lv_at hl 1 rfl) ?_
        refine lv_iconst (v := (-1)) hx hb dX2_choose_17 (by decide) ?_
        refine lv_icmp_eq (tgt := 38) hx hb dX2_choose_18 (by decide) (fun cq => ?_) (fun cq => ?_)
        · have tcq := t_eq cq
          refine lv_iconst (v := 1) hx hb dX2_choose_38 (by decide) ?_
          refine lv_goto (tgt := 43) hx hb dX2_choose_39 (by decide) ?_
          refine lv_istore (lv' := [(6, .int 1), (5, .int j), (4, .int a), (0, .ref h), (1, .ref hm), (2, .int d), (3, .int k)]) hx hb dX2_choose_43 hl (by decide) rfl (fun ls hl => ?_)
          refine lv_iload hx hb dX2_choose_45 (lv_at hl 0 rfl) ?_
          refine lv_if_eq (tgt := 84) hx hb dX2_choose_47 (by decide) (fun c_4 => ?_) (fun c_4 => ?_)
          · exact absurd c_4 (by decide)
          · have tc_4 := t_neq c_4
            refine lv_aload_n hx hb dX2_choose_50 rfl (lv_at hl 4 rfl) ?_
            refine lv_iload hx hb dX2_choose_51 (lv_at hl 1 rfl) ?_
            refine lv_iload_n hx hb dX2_choose_53 rfl (lv_at hl 6 rfl) ?_
            have hPc := hP.sub (ws' := [(hm, .inr (5, [.ref ma_priests, .ref ma_barred, .ref ma_cameOn, .ref ma_absent, .ref ma_absentFrom, .ref ma_absentTo, .int mv_size, .int mv_rows])), (ma_barred, .inl (cI, 24, .inl mf_barred))]) [4, 5] rfl
            refine roV (As := [.int j, .int k]) (rest := []) S (e_isBarred  (by omega) (by omega) (by omega) (by omega)) (cwV 2 hts gX2_choose_X5_isBarred rfl rfl rfl ⟨rfl, hd_X5_isBarred⟩ ⟨Nat.le_of_ble_eq_true rfl, Nat.le_of_ble_eq_true rfl⟩) hK hPc (va_recv hK.1 hPc (ci := 5) (q0 := 0) rfl rfl) rfl hl.1 rfl (Nat.le_of_ble_eq_true rfl) dX2_choose_54 ⟨Nat.le_of_ble_eq_true rfl, Nat.le_of_ble_eq_true rfl⟩ (fun r_ba hw_ba => ?_)
            have hw_ba : (r_ba.toInt = 1 ∧ BarP mf_barred k j) ∨ (r_ba.toInt = 0 ∧ ¬ BarP mf_barred k j) := hw_ba
            have h1_ba := if01 hw_ba
            refine lv_if_ne (tgt := 84) hx hb dX2_choose_57 (by decide) (fun c_5 => ?_) (fun c_5 => ?_)
            · have tc_5 := t_neq c_5
              obtain ⟨x_6, ex_6⟩ : ∃ y : Int32, y = j + 1 := ⟨_, rfl⟩
              refine lv_iinc (v := x_6) (lv' := [(5, .int x_6), (6, .int 1), (4, .int a), (0, .ref h), (1, .ref hm), (2, .int d), (3, .int k)]) hx hb dX2_choose_84 hl (k := 1) rfl (by rw [ex_6]; rfl) (by decide) rfl (fun ls hl => ?_)
              first | have tx_6 := t_add ex_6 (by omega) (by omega) | skip
              refine lv_goto (tgt := 6) hx hb dX2_choose_87 (by decide) ?_
              exact ih6 a x_6 (by omega) (by omega) (by omega) (by first | exact hpk.take (by omega) (by omega) ((okS_ix (by omega)).mpr ⟨if0 hw_ba (by omega), if1 hw_fr (by omega), if1 hw_ab (by omega)⟩) (by first | exact Or.inl (by omega) | exact Or.inr (by show (ft _).toInt < (ft _).toInt; rw [← hw_t1, ← hw_t2]; omega)) | exact hpk.skip (by omega) (by omega) (fun h => ((okS_ix (by omega)).mp h).1 (if1 hw_ba (by omega))) | exact hpk.skip (by omega) (by omega) (fun h => if0 hw_fr (by omega) ((okS_ix (by omega)).mp h).2.1) | exact hpk.skip (by omega) (by omega) (fun h => if0 hw_ab (by omega) ((okS_ix (by omega)).mp h).2.2) | exact hpk.keep (by omega) (by omega) (by omega) (by show (ft _).toInt ≤ (ft _).toInt; rw [← hw_t1, ← hw_t2]; omega)) ls (lv_sub hl [0, 2, 3, 4, 5, 6] rfl)
            · have tc_5 := t_eq c_5
              refine lv_aload_n hx hb dX2_choose_60 rfl (lv_at hl 3 rfl) ?_
              refine lv_iload hx hb dX2_choose_61 (lv_at hl 1 rfl) ?_
              refine lv_iload_n hx hb dX2_choose_63 rfl (lv_at hl 5 rfl) ?_
              have hPc := hP.sub (ws' := [(h, .inr (2, [.ref a_holders, .ref a_taken])), (a_holders, .inr (1, [.int 4, .ref ac])), (ac, .inl (cI, L, .inl fc))]) [0, 1, 2] rfl
              refine roV (As := [.int j, .int d]) (rest := []) S (e_isFree  (by omega) (by omega) (by omega) (by omega)) (cwV 2 hts gX2_choose_X2_isFree rfl rfl rfl ⟨rfl, hd_X2_isFree⟩ ⟨Nat.le_of_ble_eq_true rfl, Nat.le_of_ble_eq_true rfl⟩) hK hPc (va_recv hK.1 hPc (ci := 2) (q0 := 0) rfl rfl) rfl hl.1 rfl (Nat.le_of_ble_eq_true rfl) dX2_choose_64 ⟨Nat.le_of_ble_eq_true rfl, Nat.le_of_ble_eq_true rfl⟩ (fun r_fr hw_fr => ?_)
              have hw_fr : (r_fr.toInt = 1 ∧ FreeP fc d j) ∨ (r_fr.toInt = 0 ∧ ¬ FreeP fc d j) := hw_fr
              have h1_fr := if01 hw_fr
              refine lv_if_eq (tgt := 84) hx hb dX2_choose_67 (by decide) (fun c_7 => ?_) (fun c_7 => ?_)
              · have tc_7 := t_eq c_7
                obtain ⟨x_8, ex_8⟩ : ∃ y : Int32, y = j + 1 := ⟨_, rfl⟩
                refine lv_iinc (v := x_8) (lv' := [(5, .int x_8), (6, .int 1), (4, .int a), (0, .ref h), (1, .ref hm), (2, .int d), (3, .int k)]) hx hb dX2_choose_84 hl (k := 1) rfl (by rw [ex_8]; rfl) (by decide) rfl (fun ls hl => ?_)
                first | have tx_8 := t_add ex_8 (by omega) (by omega) | skip
                refine lv_goto (tgt := 6) hx hb dX2_choose_87 (by decide) ?_
                exact ih6 a x_8 (by omega) (by omega) (by omega) (by first | exact hpk.take (by omega) (by omega) ((okS_ix (by omega)).mpr ⟨if0 hw_ba (by omega), if1 hw_fr (by omega), if1 hw_ab (by omega)⟩) (by first | exact Or.inl (by omega) | exact Or.inr (by show (ft _).toInt < (ft _).toInt; rw [← hw_t1, ← hw_t2]; omega)) | exact hpk.skip (by omega) (by omega) (fun h => ((okS_ix (by omega)).mp h).1 (if1 hw_ba (by omega))) | exact hpk.skip (by omega) (by omega) (fun h => if0 hw_fr (by omega) ((okS_ix (by omega)).mp h).2.1) | exact hpk.skip (by omega) (by omega) (fun h => if0 hw_ab (by omega) ((okS_ix (by omega)).mp h).2.2) | exact hpk.keep (by omega) (by omega) (by omega) (by show (ft _).toInt ≤ (ft _).toInt; rw [← hw_t1, ← hw_t2]; omega)) ls (lv_sub hl [0, 2, 3, 4, 5, 6] rfl)
              · have tc_7 := t_neq c_7
                refine lv_aload_n hx hb dX2_choose_70 rfl (lv_at hl 4 rfl) ?_
                refine lv_iload hx hb dX2_choose_71 (lv_at hl 1 rfl) ?_
                refine lv_iload_n hx hb dX2_choose_73 rfl (lv_at hl 5 rfl) ?_
                have hPc := hP.sub (ws' := [(hm, .inr (5, [.ref ma_priests, .ref ma_barred, .ref ma_cameOn, .ref ma_absent, .ref ma_absentFrom, .ref ma_absentTo, .int mv_size, .int mv_rows])), (ma_cameOn, .inl (cI, 24, .inl mf_cameOn)), (ma_absent, .inl (cI, 60, .inl mf_absent)), (ma_absentFrom, .inl (cI, 60, .inl mf_absentFrom)), (ma_absentTo, .inl (cI, 60, .inl mf_absentTo))]) [4, 6, 7, 8, 9] rfl
                refine roV (As := [.int j, .int d]) (rest := []) S (e_isAble  (by omega) (by omega) (by omega) (by omega) (by omega) (by omega)) (cwV 2 hts gX2_choose_X5_isAble rfl rfl rfl ⟨rfl, hd_X5_isAble⟩ ⟨Nat.le_of_ble_eq_true rfl, Nat.le_of_ble_eq_true rfl⟩) hK hPc (va_recv hK.1 hPc (ci := 5) (q0 := 0) rfl rfl) rfl hl.1 rfl (Nat.le_of_ble_eq_true rfl) dX2_choose_74 ⟨Nat.le_of_ble_eq_true rfl, Nat.le_of_ble_eq_true rfl⟩ (fun r_ab hw_ab => ?_)
                have hw_ab : (r_ab.toInt = 1 ∧ AbleP mf_cameOn mf_absent mf_absentFrom mf_absentTo mv_rows.toInt j d) ∨ (r_ab.toInt = 0 ∧ ¬ AbleP mf_cameOn mf_absent mf_absentFrom mf_absentTo mv_rows.toInt j d) := hw_ab
                have h1_ab := if01 hw_ab
                refine lv_if_eq (tgt := 84) hx hb dX2_choose_77 (by decide) (fun c_9 => ?_) (fun c_9 => ?_)
                · have tc_9 := t_eq c_9
                  obtain ⟨x_10, ex_10⟩ : ∃ y : Int32, y = j + 1 := ⟨_, rfl⟩
                  refine lv_iinc (v := x_10) (lv' := [(5, .int x_10), (6, .int 1), (4, .int a), (0, .ref h), (1, .ref hm), (2, .int d), (3, .int k)]) hx hb dX2_choose_84 hl (k := 1) rfl (by rw [ex_10]; rfl) (by decide) rfl (fun ls hl => ?_)
                  first | have tx_10 := t_add ex_10 (by omega) (by omega) | skip
                  refine lv_goto (tgt := 6) hx hb dX2_choose_87 (by decide) ?_
                  exact ih6 a x_10 (by omega) (by omega) (by omega) (by first | exact hpk.take (by omega) (by omega) ((okS_ix (by omega)).mpr ⟨if0 hw_ba (by omega), if1 hw_fr (by omega), if1 hw_ab (by omega)⟩) (by first | exact Or.inl (by omega) | exact Or.inr (by show (ft _).toInt < (ft _).toInt; rw [← hw_t1, ← hw_t2]; omega)) | exact hpk.skip (by omega) (by omega) (fun h => ((okS_ix (by omega)).mp h).1 (if1 hw_ba (by omega))) | exact hpk.skip (by omega) (by omega) (fun h => if0 hw_fr (by omega) ((okS_ix (by omega)).mp h).2.1) | exact hpk.skip (by omega) (by omega) (fun h => if0 hw_ab (by omega) ((okS_ix (by omega)).mp h).2.2) | exact hpk.keep (by omega) (by omega) (by omega) (by show (ft _).toInt ≤ (ft _).toInt; rw [← hw_t1, ← hw_t2]; omega)) ls (lv_sub hl [0, 2, 3, 4, 5, 6] rfl)
                · have tc_9 := t_neq c_9
                  refine lv_iload hx hb dX2_choose_80 (lv_at hl 1 rfl) ?_
                  refine lv_istore (lv' := [(4, .int j), (6, .int 1), (5, .int j), (0, .ref h), (1, .ref hm), (2, .int d), (3, .int k)]) hx hb dX2_choose_82 hl (by decide) rfl (fun ls hl => ?_)
                  obtain ⟨x_11, ex_11⟩ : ∃ y : Int32, y = j + 1 := ⟨_, rfl⟩
                  refine lv_iinc (v := x_11) (lv' := [(5, .int x_11), (4, .int j), (6, .int 1), (0, .ref h), (1, .ref hm), (2, .int d), (3, .int k)]) hx hb dX2_choose_84 hl (k := 2) rfl (by rw [ex_11]; rfl) (by decide) rfl (fun ls hl => ?_)
                  first | have tx_11 := t_add ex_11 (by omega) (by omega) | skip
                  refine lv_goto (tgt := 6) hx hb dX2_choose_87 (by decide) ?_
                  exact ih6 j x_11 (by omega) (by omega) (by omega) (by first | exact hpk.take (by omega) (by omega) ((okS_ix (by omega)).mpr ⟨if0 hw_ba (by omega), if1 hw_fr (by omega), if1 hw_ab (by omega)⟩) (by first | exact Or.inl (by omega) | exact Or.inr (by show (ft _).toInt < (ft _).toInt; rw [← hw_t1, ← hw_t2]; omega)) | exact hpk.skip (by omega) (by omega) (fun h => ((okS_ix (by omega)).mp h).1 (if1 hw_ba (by omega))) | exact hpk.skip (by omega) (by omega) (fun h => if0 hw_fr (by omega) ((okS_ix (by omega)).mp h).2.1) | exact hpk.skip (by omega) (by omega) (fun h => if0 hw_ab (by omega) ((okS_ix (by omega)).mp h).2.2) | exact hpk.keep (by omega) (by omega) (by omega) (by show (ft _).toInt ≤ (ft _).toInt; rw [← hw_t1, ← hw_t2]; omega)) ls (lv_sub hl [0, 1, 3, 4, 5, 6] rfl)
        · have tcq := t_neq cq
          refine lv_aload_n hx hb dX2_choose_21 rfl (lv_at hl 2 rfl) ?_
          refine lv_iload hx hb dX2_choose_22 (lv_at hl 0 rfl) ?_
          refine lv_iload_n hx hb dX2_choose_24 rfl (lv_at hl 5 rfl) ?_
          have hPc := hP.sub (ws' := [(h, .inr (2, [.ref a_holders, .ref a_taken])), (a_taken, .inl (cI, 96, .inl ft))]) [0, 3] rfl
          refine roV (As := [.int j, .int k]) (rest := []) S (e_taken  (by omega) (by omega) (by omega) (by omega)) (cwV 2 hts gX2_choose_X2_turnsTaken rfl rfl rfl ⟨rfl, hd_X2_turnsTaken⟩ ⟨Nat.le_of_ble_eq_true rfl, Nat.le_of_ble_eq_true rfl⟩) hK hPc (va_recv hK.1 hPc (ci := 2) (q0 := 0) rfl rfl) rfl hl.1 rfl (Nat.le_of_ble_eq_true rfl) dX2_choose_25 ⟨Nat.le_of_ble_eq_true rfl, Nat.le_of_ble_eq_true rfl⟩ (fun r_t1 hw_t1 => ?_)
          have hw_t1 : r_t1 = ft (4 * j.toNatClampNeg + k.toNatClampNeg) := hw_t1
          refine lv_aload_n hx hb dX2_choose_28 rfl (lv_at hl 2 rfl) ?_
          refine lv_iload hx hb dX2_choose_29 (lv_at hl 1 rfl) ?_
          refine lv_iload_n hx hb dX2_choose_31 rfl (lv_at hl 5 rfl) ?_
          have hPc := hP.sub (ws' := [(h, .inr (2, [.ref a_holders, .ref a_taken])), (a_taken, .inl (cI, 96, .inl ft))]) [0, 3] rfl
          refine roV (As := [.int a, .int k]) (rest := [.int r_t1]) S (e_taken  (by omega) (by omega) (by omega) (by omega)) (cwV 2 hts gX2_choose_X2_turnsTaken rfl rfl rfl ⟨rfl, hd_X2_turnsTaken⟩ ⟨Nat.le_of_ble_eq_true rfl, Nat.le_of_ble_eq_true rfl⟩) hK hPc (va_recv hK.1 hPc (ci := 2) (q0 := 0) rfl rfl) rfl hl.1 rfl (Nat.le_of_ble_eq_true rfl) dX2_choose_32 ⟨Nat.le_of_ble_eq_true rfl, Nat.le_of_ble_eq_true rfl⟩ (fun r_t2 hw_t2 => ?_)
          have hw_t2 : r_t2 = ft (4 * a.toNatClampNeg + k.toNatClampNeg) := hw_t2
          refine lv_icmp_ge (tgt := 42) hx hb dX2_choose_35 (by decide) (fun c_12 => ?_) (fun c_12 => ?_)
          · have tc_12 := t_le c_12
            refine lv_iconst (v := 0) hx hb dX2_choose_42 (by decide) ?_
            refine lv_istore (lv' := [(6, .int 0), (5, .int j), (4, .int a), (0, .ref h), (1, .ref hm), (2, .int d), (3, .int k)]) hx hb dX2_choose_43 hl (by decide) rfl (fun ls hl => ?_)
            refine lv_iload hx hb dX2_choose_45 (lv_at hl 0 rfl) ?_
            refine lv_if_eq (tgt := 84) hx hb dX2_choose_47 (by decide) (fun c_13 => ?_) (fun c_13 => ?_)
            · have tc_13 := t_eq c_13
              obtain ⟨x_14, ex_14⟩ : ∃ y : Int32, y = j + 1 := ⟨_, rfl⟩
              refine lv_iinc (v := x_14) (lv' := [(5, .int x_14), (6, .int 0), (4, .int a), (0, .ref h), (1, .ref hm), (2, .int d), (3, .int k)]) hx hb dX2_choose_84 hl (k := 1) rfl (by rw [ex_14]; rfl) (by decide) rfl (fun ls hl => ?_)
              first | have tx_14 := t_add ex_14 (by omega) (by omega) | skip
              refine lv_goto (tgt := 6) hx hb dX2_choose_87 (by decide) ?_
              exact ih6 a x_14 (by omega) (by omega) (by omega) (by first | exact hpk.take (by omega) (by omega) ((okS_ix (by omega)).mpr ⟨if0 hw_ba (by omega), if1 hw_fr (by omega), if1 hw_ab (by omega)⟩) (by first | exact Or.inl (by omega) | exact Or.inr (by show (ft _).toInt < (ft _).toInt; rw [← hw_t1, ← hw_t2]; omega)) | exact hpk.skip (by omega) (by omega) (fun h => ((okS_ix (by omega)).mp h).1 (if1 hw_ba (by omega))) | exact hpk.skip (by omega) (by omega) (fun h => if0 hw_fr (by omega) ((okS_ix (by omega)).mp h).2.1) | exact hpk.skip (by omega) (by omega) (fun h => if0 hw_ab (by omega) ((okS_ix (by omega)).mp h).2.2) | exact hpk.keep (by omega) (by omega) (by omega) (by show (ft _).toInt ≤ (ft _).toInt; rw [← hw_t1, ← hw_t2]; omega)) ls (lv_sub hl [0, 2, 3, 4, 5, 6] rfl)
            · exact absurd c_13 (by decide)
          · have tc_12 := t_nle c_12
            refine lv_iconst (v := 1) hx hb dX2_choose_38 (by decide) ?_
            refine lv_goto (tgt := 43) hx hb dX2_choose_39 (by decide) ?_
            refine lv_istore (lv' := [(6, .int 1), (5, .int j), (4, .int a), (0, .ref h), (1, .ref hm), (2, .int d), (3, .int k)]) hx hb dX2_choose_43 hl (by decide) rfl (fun ls hl => ?_)
            refine lv_iload hx hb dX2_choose_45 (lv_at hl 0 rfl) ?_
            refine lv_if_eq (tgt := 84) hx hb dX2_choose_47 (by decide) (fun c_15 => ?_) (fun c_15 => ?_)
            · exact absurd c_15 (by decide)
            · have tc_15 := t_neq c_15
              refine lv_aload_n hx hb dX2_choose_50 rfl (lv_at hl 4 rfl) ?_
              refine lv_iload hx hb dX2_choose_51 (lv_at hl 1 rfl) ?_
              refine lv_iload_n hx hb dX2_choose_53 rfl (lv_at hl 6 rfl) ?_
              have hPc := hP.sub (ws' := [(hm, .inr (5, [.ref ma_priests, .ref ma_barred, .ref ma_cameOn, .ref ma_absent, .ref ma_absentFrom, .ref ma_absentTo, .int mv_size, .int mv_rows])), (ma_barred, .inl (cI, 24, .inl mf_barred))]) [4, 5] rfl
              refine roV (As := [.int j, .int k]) (rest := []) S (e_isBarred  (by omega) (by omega) (by omega) (by omega)) (cwV 2 hts gX2_choose_X5_isBarred rfl rfl rfl ⟨rfl, hd_X5_isBarred⟩ ⟨Nat.le_of_ble_eq_true rfl, Nat.le_of_ble_eq_true rfl⟩) hK hPc (va_recv hK.1 hPc (ci := 5) (q0 := 0) rfl rfl) rfl hl.1 rfl (Nat.le_of_ble_eq_true rfl) dX2_choose_54 ⟨Nat.le_of_ble_eq_true rfl, Nat.le_of_ble_eq_true rfl⟩ (fun r_ba hw_ba => ?_)
              have hw_ba : (r_ba.toInt = 1 ∧ BarP mf_barred k j) ∨ (r_ba.toInt = 0 ∧ ¬ BarP mf_barred k j) := hw_ba
              have h1_ba := if01 hw_ba
              refine lv_if_ne (tgt := 84) hx hb dX2_choose_57 (by decide) (fun c_16 => ?_) (fun c_16 => ?_)
              · have tc_16 := t_neq c_16
                obtain ⟨x_17, ex_17⟩ : ∃ y : Int32, y = j + 1 := ⟨_, rfl⟩
                refine lv_iinc (v := x_17) (lv' := [(5, .int x_17), (6, .int 1), (4, .int a), (0, .ref h), (1, .ref hm), (2, .int d), (3, .int k)]) hx hb dX2_choose_84 hl (k := 1) rfl (by rw [ex_17]; rfl) (by decide) rfl (fun ls hl => ?_)
                first | have tx_17 := t_add ex_17 (by omega) (by omega) | skip
                refine lv_goto (tgt := 6) hx hb dX2_choose_87 (by decide) ?_
                exact ih6 a x_17 (by omega) (by omega) (by omega) (by first | exact hpk.take (by omega) (by omega) ((okS_ix (by omega)).mpr ⟨if0 hw_ba (by omega), if1 hw_fr (by omega), if1 hw_ab (by omega)⟩) (by first | exact Or.inl (by omega) | exact Or.inr (by show (ft _).toInt < (ft _).toInt; rw [← hw_t1, ← hw_t2]; omega)) | exact hpk.skip (by omega) (by omega) (fun h => ((okS_ix (by omega)).mp h).1 (if1 hw_ba (by omega))) | exact hpk.skip (by omega) (by omega) (fun h => if0 hw_fr (by omega) ((okS_ix (by omega)).mp h).2.1) | exact hpk.skip (by omega) (by omega) (fun h => if0 hw_ab (by omega) ((okS_ix (by omega)).mp h).2.2) | exact hpk.keep (by omega) (by omega) (by omega) (by show (ft _).toInt ≤ (ft _).toInt; rw [← hw_t1, ← hw_t2]; omega)) ls (lv_sub hl [0, 2, 3, 4, 5, 6] rfl)
              · have tc_16 := t_eq c_16
                refine lv_aload_n hx hb dX2_choose_60 rfl (lv_at hl 3 rfl) ?_
                refine lv_iload hx hb dX2_choose_61 (lv_at hl 1 rfl) ?_
                refine lv_iload_n hx hb dX2_choose_63 rfl (lv_at hl 5 rfl) ?_
                have hPc := hP.sub (ws' := [(h, .inr (2, [.ref a_holders, .ref a_taken])), (a_holders, .inr (1, [.int 4, .ref ac])), (ac, .inl (cI, L, .inl fc))]) [0, 1, 2] rfl
                refine roV (As := [.int j, .int d]) (rest := []) S (e_isFree  (by omega) (by omega) (by omega) (by omega)) (cwV 2 hts gX2_choose_X2_isFree rfl rfl rfl ⟨rfl, hd_X2_isFree⟩ ⟨Nat.le_of_ble_eq_true rfl, Nat.le_of_ble_eq_true rfl⟩) hK hPc (va_recv hK.1 hPc (ci := 2) (q0 := 0) rfl rfl) rfl hl.1 rfl (Nat.le_of_ble_eq_true rfl) dX2_choose_64 ⟨Nat.le_of_ble_eq_true rfl, Nat.le_of_ble_eq_true rfl⟩ (fun r_fr hw_fr => ?_)
                have hw_fr : (r_fr.toInt = 1 ∧ FreeP fc d j) ∨ (r_fr.toInt = 0 ∧ ¬ FreeP fc d j) := hw_fr
                have h1_fr := if01 hw_fr
                refine lv_if_eq (tgt := 84) hx hb dX2_choose_67 (by decide) (fun c_18 => ?_) (fun c_18 => ?_)
                · have tc_18 := t_eq c_18
                  obtain ⟨x_19, ex_19⟩ : ∃ y : Int32, y = j + 1 := ⟨_, rfl⟩
                  refine lv_iinc (v := x_19) (lv' := [(5, .int x_19), (6, .int 1), (4, .int a), (0, .ref h), (1, .ref hm), (2, .int d), (3, .int k)]) hx hb dX2_choose_84 hl (k := 1) rfl (by rw [ex_19]; rfl) (by decide) rfl (fun ls hl => ?_)
                  first | have tx_19 := t_add ex_19 (by omega) (by omega) | skip
                  refine lv_goto (tgt := 6) hx hb dX2_choose_87 (by decide) ?_
                  exact ih6 a x_19 (by omega) (by omega) (by omega) (by first | exact hpk.take (by omega) (by omega) ((okS_ix (by omega)).mpr ⟨if0 hw_ba (by omega), if1 hw_fr (by omega), if1 hw_ab (by omega)⟩) (by first | exact Or.inl (by omega) | exact Or.inr (by show (ft _).toInt < (ft _).toInt; rw [← hw_t1, ← hw_t2]; omega)) | exact hpk.skip (by omega) (by omega) (fun h => ((okS_ix (by omega)).mp h).1 (if1 hw_ba (by omega))) | exact hpk.skip (by omega) (by omega) (fun h => if0 hw_fr (by omega) ((okS_ix (by omega)).mp h).2.1) | exact hpk.skip (by omega) (by omega) (fun h => if0 hw_ab (by omega) ((okS_ix (by omega)).mp h).2.2) | exact hpk.keep (by omega) (by omega) (by omega) (by show (ft _).toInt ≤ (ft _).toInt; rw [← hw_t1, ← hw_t2]; omega)) ls (lv_sub hl [0, 2, 3, 4, 5, 6] rfl)
                · have tc_18 := t_neq c_18
                  refine lv_aload_n hx hb dX2_choose_70 rfl (lv_at hl 4 rfl) ?_
                  refine lv_iload hx hb dX2_choose_71 (lv_at hl 1 rfl) ?_
                  refine lv_iload_n hx hb dX2_choose_73 rfl (lv_at hl 5 rfl) ?_
                  have hPc := hP.sub (ws' := [(hm, .inr (5, [.ref ma_priests, .ref ma_barred, .ref ma_cameOn, .ref ma_absent, .ref ma_absentFrom, .ref ma_absentTo, .int mv_size, .int mv_rows])), (ma_cameOn, .inl (cI, 24, .inl mf_cameOn)), (ma_absent, .inl (cI, 60, .inl mf_absent)), (ma_absentFrom, .inl (cI, 60, .inl mf_absentFrom)), (ma_absentTo, .inl (cI, 60, .inl mf_absentTo))]) [4, 6, 7, 8, 9] rfl
                  refine roV (As := [.int j, .int d]) (rest := []) S (e_isAble  (by omega) (by omega) (by omega) (by omega) (by omega) (by omega)) (cwV 2 hts gX2_choose_X5_isAble rfl rfl rfl ⟨rfl, hd_X5_isAble⟩ ⟨Nat.le_of_ble_eq_true rfl, Nat.le_of_ble_eq_true rfl⟩) hK hPc (va_recv hK.1 hPc (ci := 5) (q0 := 0) rfl rfl) rfl hl.1 rfl (Nat.le_of_ble_eq_true rfl) dX2_choose_74 ⟨Nat.le_of_ble_eq_true rfl, Nat.le_of_ble_eq_true rfl⟩ (fun r_ab hw_ab => ?_)
                  have hw_ab : (r_ab.toInt = 1 ∧ AbleP mf_cameOn mf_absent mf_absentFrom mf_absentTo mv_rows.toInt j d) ∨ (r_ab.toInt = 0 ∧ ¬ AbleP mf_cameOn mf_absent mf_absentFrom mf_absentTo mv_rows.toInt j d) := hw_ab
                  have h1_ab := if01 hw_ab
                  refine lv_if_eq (tgt := 84) hx hb dX2_choose_77 (by decide) (fun c_20 => ?_) (fun c_20 => ?_)
                  · have tc_20 := t_eq c_20
                    obtain ⟨x_21, ex_21⟩ : ∃ y : Int32, y = j + 1 := ⟨_, rfl⟩
                    refine lv_iinc (v := x_21) (lv' := [(5, .int x_21), (6, .int 1), (4, .int a), (0, .ref h), (1, .ref hm), (2, .int d), (3, .int k)]) hx hb dX2_choose_84 hl (k := 1) rfl (by rw [ex_21]; rfl) (by decide) rfl (fun ls hl => ?_)
                    first | have tx_21 := t_add ex_21 (by omega) (by omega) | skip
                    refine lv_goto (tgt := 6) hx hb dX2_choose_87 (by decide) ?_
                    exact ih6 a x_21 (by omega) (by omega) (by omega) (by first | exact hpk.take (by omega) (by omega) ((okS_ix (by omega)).mpr ⟨if0 hw_ba (by omega), if1 hw_fr (by omega), if1 hw_ab (by omega)⟩) (by first | exact Or.inl (by omega) | exact Or.inr (by show (ft _).toInt < (ft _).toInt; rw [← hw_t1, ← hw_t2]; omega)) | exact hpk.skip (by omega) (by omega) (fun h => ((okS_ix (by omega)).mp h).1 (if1 hw_ba (by omega))) | exact hpk.skip (by omega) (by omega) (fun h => if0 hw_fr (by omega) ((okS_ix (by omega)).mp h).2.1) | exact hpk.skip (by omega) (by omega) (fun h => if0 hw_ab (by omega) ((okS_ix (by omega)).mp h).2.2) | exact hpk.keep (by omega) (by omega) (by omega) (by show (ft _).toInt ≤ (ft _).toInt; rw [← hw_t1, ← hw_t2]; omega)) ls (lv_sub hl [0, 2, 3, 4, 5, 6] rfl)
                  · have tc_20 := t_neq c_20
                    refine lv_iload hx hb dX2_choose_80 (lv_at hl 1 rfl) ?_
                    refine lv_istore (lv' := [(4, .int j), (6, .int 1), (5, .int j), (0, .ref h), (1, .ref hm), (2, .int d), (3, .int k)]) hx hb dX2_choose_82 hl (by decide) rfl (fun ls hl => ?_)
                    obtain ⟨x_22, ex_22⟩ : ∃ y : Int32, y = j + 1 := ⟨_, rfl⟩
                    refine lv_iinc (v := x_22) (lv' := [(5, .int x_22), (4, .int j), (6, .int 1), (0, .ref h), (1, .ref hm), (2, .int d), (3, .int k)]) hx hb dX2_choose_84 hl (k := 2) rfl (by rw [ex_22]; rfl) (by decide) rfl (fun ls hl => ?_)
                    first | have tx_22 := t_add ex_22 (by omega) (by omega) | skip
                    refine lv_goto (tgt := 6) hx hb dX2_choose_87 (by decide) ?_
                    exact ih6 j x_22 (by omega) (by omega) (by omega) (by first | exact hpk.take (by omega) (by omega) ((okS_ix (by omega)).mpr ⟨if0 hw_ba (by omega), if1 hw_fr (by omega), if1 hw_ab (by omega)⟩) (by first | exact Or.inl (by omega) | exact Or.inr (by show (ft _).toInt < (ft _).toInt; rw [← hw_t1, ← hw_t2]; omega)) | exact hpk.skip (by omega) (by omega) (fun h => ((okS_ix (by omega)).mp h).1 (if1 hw_ba (by omega))) | exact hpk.skip (by omega) (by omega) (fun h => if0 hw_fr (by omega) ((okS_ix (by omega)).mp h).2.1) | exact hpk.skip (by omega) (by omega) (fun h => if0 hw_ab (by omega) ((okS_ix (by omega)).mp h).2.2) | exact hpk.keep (by omega) (by omega) (by omega) (by show (ft _).toInt ≤ (ft _).toInt; rw [← hw_t1, ← hw_t2]; omega)) ls (lv_sub hl [0, 1, 3, 4, 5, 6] rfl)
  exact loop6 ((mv_size.toInt - (0 : Int32).toInt).toNat + 1) (-1) 0 (by omega) (by omega) (by omega) (IsPick.zero (by omega) (by omega)) ls (lv_sub hl [0, 1, 2, 3, 4, 5] rfl)

theorem in_e_put_X1 : ∀ w ∈ wsX10, w ∈ wsX1_put := tl_X1_put_X1
set_option maxHeartbeats 8000000 in
set_option maxRecDepth 100000 in
theorem e_put {l : Launch} {D : va_G} {cI cZ cB : ClassId} {sz : Nat} {h ac L : Nat} {fc : Nat → Int32} {d k x : Int32} (hL : L < 65536) (hd : (d.toInt + 1) * 4 ≤ L) (hd0 : 0 ≤ d.toInt) (hd1 : d.toInt ≤ 1094) (hk0 : 0 ≤ k.toInt) (hk1 : k.toInt < 4) (hr : InR fc L (-1) 24) (hx0 : -1 ≤ x.toInt) (hx1 : x.toInt < 24) : Met l yX1_put wsX1_put ({ frames := 1, cells := 0, slots := 0, locals := 22 }) (RW D cI cZ cB [.ref h, .int d, .int k, .int x] sz [(h, .inr (1, [.int 4, .ref ac])), (ac, .inl (cI, L, .inl fc))]) (va_Qv (fun u : (Nat → Int32) => InR u L (-1) 24 ∧ u = upd fc (4 * d.toNatClampNeg + k.toNatClampNeg) x) (BW D [(h, .inr (1, [.int 4, .ref ac])), (ac, .inl (cI, L, .inl fc))] sz (fun u : (Nat → Int32) => [(h, .inr (1, [.int 4, .ref ac])), (ac, .inl (cI, L, .inl u))])) (va_A [(h, .inr (1, [.int 4, .ref ac])), (ac, .inl (cI, L, .inl fc))] sz)) 0 (0) (va_A [(h, .inr (1, [.int 4, .ref ac])), (ac, .inl (cI, L, .inl fc))] sz) := by
  refine rw_retv (cc := cX1_put) (maxL := 4) (own := RX1) (by decide) rfl rfl (Nat.le_of_ble_eq_true rfl) ?_
  intro p e s m args below meth c Q A S hin hret hP hK hD hA hS ls hl
  obtain ⟨hx, hb, hml, hown, hts⟩ := id S
  have hl : lv_has ls 4 [(0, .ref h), (1, .int d), (2, .int k), (3, .int x)] := hl
  have kk0 : (0 : Int32).toInt = 0 := by decide
  have kk1 : (1 : Int32).toInt = 1 := by decide
  have kk4 : (4 : Int32).toInt = 4 := by decide
  have lk0 := hts (.fieldLink RX1 15 "AbbeyHours$DayTable" "width" "I") (List.mem_cons_of_mem _ (List.mem_append_left _ (List.mem_of_getElem? (i := 0) rfl)))
  have lk1 := hts (.fieldLink RX1 21 "AbbeyHours$DayTable" "cells" "[I") (List.mem_cons_of_mem _ (List.mem_append_left _ (List.mem_of_getElem? (i := 1) rfl)))
  refine lv_aload_n hx hb dX1_put_0 rfl (lv_at hl 0 rfl) ?_
  refine lv_iload_n hx hb dX1_put_1 rfl (lv_at hl 1 rfl) ?_
  refine lv_iload_n hx hb dX1_put_2 rfl (lv_at hl 2 rfl) ?_
  have hPc := hP.sub (ws' := [(h, .inr (1, [.int 4, .ref ac]))]) [0] rfl
  refine roV (As := [.int d, .int k]) (rest := []) S (d4_isCell  ) (cwV 2 hts gX1_put_X1_isCell rfl rfl rfl ⟨rfl, hd_X1_isCell⟩ ⟨Nat.le_of_ble_eq_true rfl, Nat.le_of_ble_eq_true rfl⟩) hK hPc (va_recv hK.1 hPc (ci := 1) (q0 := 0) rfl rfl) rfl hl.1 rfl (Nat.le_of_ble_eq_true rfl) dX1_put_3 ⟨Nat.le_of_ble_eq_true rfl, Nat.le_of_ble_eq_true rfl⟩ (fun r_1 hw_1 => ?_)
  have hw_1 : (r_1.toInt = 1 ∧ 0 ≤ d.toInt ∧ d.toInt < 1095 ∧ 0 ≤ k.toInt ∧ k.toInt < 4) ∨ (r_1.toInt = 0 ∧ (d.toInt < 0 ∨ 1095 ≤ d.toInt ∨ k.toInt < 0 ∨ 4 ≤ k.toInt)) := hw_1
  refine lv_if_ne (tgt := 10) hx hb dX1_put_6 (by decide) (fun c_2 => ?_) (fun c_2 => ?_)
  · have tc_2 := t_neq c_2
    refine lv_iload_n hx hb dX1_put_10 rfl (lv_at hl 1 rfl) ?_
    refine lv_iconst (v := 1) hx hb dX1_put_11 (by decide) ?_
    refine lv_iadd hx hb dX1_put_12 ?_
    refine lv_topi (fun x_3 ex_3 => ?_)
    first | have tx_3 := t_add ex_3 (by omega) (by omega) | skip
    refine lv_aload_n hx hb dX1_put_13 rfl (lv_at hl 0 rfl) ?_
    refine va_get (D := D) (ci := 1) (v := .int 4) (C := RX1) (T := TX1) (N := 2) hx hb hts in_e_put_X1 hown hK.1 hP 0 rfl rfl 0 (by decide) lk0 (fun _ h9 => h9) rfl dX1_put_14 ?_
    refine lv_imul hx hb dX1_put_17 ?_
    refine lv_topi (fun x_4 ex_4 => ?_)
    first | have tx_4 := t_mulK kk4 ex_4 (by omega) (by omega) | skip
    refine lv_aload_n hx hb dX1_put_18 rfl (lv_at hl 0 rfl) ?_
    refine va_get (D := D) (ci := 1) (v := .ref ac) (C := RX1) (T := TX1) (N := 2) hx hb hts in_e_put_X1 hown hK.1 hP 0 rfl rfl 1 (by decide) lk1 (fun _ h9 => h9) rfl dX1_put_19 ?_
    refine va_alen hx hb hK.1 hP 1 0 rfl rfl rfl dX1_put_22 ?_
    refine lv_topi (fun x_5 ex_5 => ?_)
    have tx_5 : x_5.toInt = L := by rw [ex_5]; exact nI_toInt (by omega)
    refine lv_icmp_le (tgt := 38) hx hb dX1_put_23 (by decide) (fun c_6 => ?_) (fun c_6 => ?_)
    · have tc_6 := t_le c_6
      refine lv_aload_n hx hb dX1_put_38 rfl (lv_at hl 0 rfl) ?_
      refine va_get (D := D) (ci := 1) (v := .ref ac) (C := RX1) (T := TX1) (N := 2) hx hb hts in_e_put_X1 hown hK.1 hP 0 rfl rfl 1 (by decide) lk1 (fun _ h9 => h9) rfl dX1_put_39 ?_
      refine lv_iload_n hx hb dX1_put_42 rfl (lv_at hl 1 rfl) ?_
      refine lv_aload_n hx hb dX1_put_43 rfl (lv_at hl 0 rfl) ?_
      refine va_get (D := D) (ci := 1) (v := .int 4) (C := RX1) (T := TX1) (N := 2) hx hb hts in_e_put_X1 hown hK.1 hP 0 rfl rfl 0 (by decide) lk0 (fun _ h9 => h9) rfl dX1_put_44 ?_
      refine lv_imul hx hb dX1_put_47 ?_
      refine lv_topi (fun x_7 ex_7 => ?_)
      first | have tx_7 := t_mulK kk4 ex_7 (by omega) (by omega) | skip
      refine lv_iload_n hx hb dX1_put_48 rfl (lv_at hl 2 rfl) ?_
      refine lv_iadd hx hb dX1_put_49 ?_
      refine lv_topi (fun ix eix => ?_)
      first | have tix := t_add eix (by omega) (by omega) | skip
      refine lv_iload_n hx hb dX1_put_50 rfl (lv_at hl 3 rfl) ?_
      refine va_iast hx hb hK.1 hP hD hS 1 0 rfl rfl (t_in (by omega) (by omega)) dX1_put_51 (fun H locs hP hD hS => ?_)
      obtain ⟨gg, egg⟩ : ∃ z : Nat → Int32, z = upd fc ((ix : Int32).toNatClampNeg) x := ⟨_, rfl⟩
      rw [← egg] at hP hD
      have hP : va_P D vwCl [(h, .inr (1, [.int 4, .ref ac])), (ac, .inl (cI, L, .inl gg))] H := hP
      have hD : va_D A [(h, .inr (1, [.int 4, .ref ac])), (ac, .inl (cI, L, .inl gg))] := hD
      exact hret gg _ _ _ _ (show InR gg L (-1) 24 ∧ gg = upd fc (4 * d.toNatClampNeg + k.toNatClampNeg) x from ⟨by rw [egg]; exact hr.put (by omega) (by omega), by rw [egg, ix4 (i := d) (k := k) (by omega) (by omega) (by omega)]⟩) (hP.sub [0, 1] rfl) (hD.sub [0, 1] (by decide +kernel) rfl) hS dX1_put_52
    · have tc_6 := t_nle c_6
      exfalso; omega
  · have tc_2 := t_eq c_2
    exfalso; omega

theorem in_e_give_X2 : ∀ w ∈ wsX20, w ∈ wsX2_give := tl_X2_give_X2
set_option maxHeartbeats 8000000 in
set_option maxRecDepth 100000 in
theorem e_give {l : Launch} {D : va_G} {cI cZ cB : ClassId} {sz : Nat} {h a_holders a_taken ac L : Nat} {fc ft : Nat → Int32} {d k i : Int32} (hL : L < 65536) (hd : (d.toInt + 1) * 4 ≤ L) (hd0 : 0 ≤ d.toInt) (hd1 : d.toInt ≤ 1094) (hk0 : 0 ≤ k.toInt) (hk1 : k.toInt < 4) (hi : i.toInt = -1 ∨ (0 ≤ i.toInt ∧ i.toInt < 24)) (hr : InR fc L (-1) 24) : Met l yX2_give wsX2_give ({ frames := 2, cells := 0, slots := 0, locals := 45 }) (RW D cI cZ cB [.ref h, .int d, .int k, .int i] sz [(h, .inr (2, [.ref a_holders, .ref a_taken])), (a_holders, .inr (1, [.int 4, .ref ac])), (ac, .inl (cI, L, .inl fc)), (a_taken, .inl (cI, 96, .inl ft))]) (va_Qv (fun u : (Nat → Int32) × (Nat → Int32) => InR u.1 L (-1) 24 ∧ u.1 = upd fc (4 * d.toNatClampNeg + k.toNatClampNeg) i ∧ u.2 = givF ft i k) (BW D [(h, .inr (2, [.ref a_holders, .ref a_taken])), (a_holders, .inr (1, [.int 4, .ref ac])), (ac, .inl (cI, L, .inl fc)), (a_taken, .inl (cI, 96, .inl ft))] sz (fun u : (Nat → Int32) × (Nat → Int32) => [(h, .inr (2, [.ref a_holders, .ref a_taken])), (a_holders, .inr (1, [.int 4, .ref ac])), (ac, .inl (cI, L, .inl u.1)), (a_taken, .inl (cI, 96, .inl u.2))])) (va_A [(h, .inr (2, [.ref a_holders, .ref a_taken])), (a_holders, .inr (1, [.int 4, .ref ac])), (ac, .inl (cI, L, .inl fc)), (a_taken, .inl (cI, 96, .inl ft))] sz)) 0 (0) (va_A [(h, .inr (2, [.ref a_holders, .ref a_taken])), (a_holders, .inr (1, [.int 4, .ref ac])), (ac, .inl (cI, L, .inl fc)), (a_taken, .inl (cI, 96, .inl ft))] sz) := by
  refine rw_retv (cc := cX2_give) (maxL := 4) (own := RX2) (by decide) rfl rfl (Nat.le_of_ble_eq_true rfl) ?_
  intro p e s m args below meth c Q A S hin hret hP hK hD hA hS ls hl
  obtain ⟨hx, hb, hml, hown, hts⟩ := id S
  have hl : lv_has ls 4 [(0, .ref h), (1, .int d), (2, .int k), (3, .int i)] := hl
  have kkm1 : (-1 : Int32).toInt = -1 := by decide
  have kk0 : (0 : Int32).toInt = 0 := by decide
  have kk1 : (1 : Int32).toInt = 1 := by decide
  have kk4 : (4 : Int32).toInt = 4 := by decide
  have lk0 := hts (.fieldLink RX2 14 "AbbeyHours$Duties" "holders" "LAbbeyHours$DayTable;") (mc_X2_give_r1 _ (List.mem_of_getElem? (i := 0) rfl))
  have lk1 := hts (.fieldLink RX2 22 "AbbeyHours$Duties" "taken" "[I") (mc_X2_give_r1 _ (List.mem_of_getElem? (i := 1) rfl))
  refine lv_aload_n hx hb dX2_give_0 rfl (lv_at hl 0 rfl) ?_
  refine va_get (D := D) (ci := 2) (v := .ref a_holders) (C := RX2) (T := TX2) (N := 2) hx hb hts in_e_give_X2 hown hK.1 hP 0 rfl rfl 0 (by decide) lk0 (fun _ h9 => h9) rfl dX2_give_1 ?_
  refine lv_iload_n hx hb dX2_give_4 rfl (lv_at hl 1 rfl) ?_
  refine lv_iload_n hx hb dX2_give_5 rfl (lv_at hl 2 rfl) ?_
  refine lv_iload_n hx hb dX2_give_6 rfl (lv_at hl 3 rfl) ?_
  have hPc := hP.sub (ws' := [(a_holders, .inr (1, [.int 4, .ref ac])), (ac, .inl (cI, L, .inl fc))]) [1, 2] rfl
  refine rwVv (As := [.int d, .int k, .int i]) (rest := []) (wc := [(a_holders, .inr (1, [.int 4, .ref ac])), (ac, .inl (cI, L, .inl fc))]) (wr := [(h, .inr (2, [.ref a_holders, .ref a_taken])), (a_taken, .inl (cI, 96, .inl ft))]) S (e_put  (by omega) (by omega) (by omega) (by omega) (by omega) (by omega) (hr) (by omega) (by omega)) (cwV 3 hts gX2_give_X1_put rfl rfl rfl ⟨rfl, hd_X1_put⟩ ⟨Nat.le_of_ble_eq_true rfl, Nat.le_of_ble_eq_true rfl⟩) hK hP hD hS hA [1, 2] [0, 3] rfl rfl (by decide +kernel) (by decide +kernel) (by decide +kernel) (va_recv hK.1 hPc (ci := 1) (q0 := 0) rfl rfl) rfl hl.1 rfl (Nat.le_of_ble_eq_true rfl) dX2_give_7 ⟨Nat.le_of_ble_eq_true rfl, Nat.le_of_ble_eq_true rfl⟩ (fun u_pu H locs hw_pu hP hD hS => ?_)
  obtain ⟨fc1_pu, rfl⟩ : ∃ z, z = u_pu := ⟨_, rfl⟩
  have hw_pu : InR fc1_pu L (-1) 24 ∧ fc1_pu = upd fc (4 * d.toNatClampNeg + k.toNatClampNeg) i := hw_pu
  have hP : va_P D vwCl [(h, .inr (2, [.ref a_holders, .ref a_taken])), (a_taken, .inl (cI, 96, .inl ft)), (a_holders, .inr (1, [.int 4, .ref ac])), (ac, .inl (cI, L, .inl fc1_pu))] H := hP
  have hD : va_D A [(h, .inr (2, [.ref a_holders, .ref a_taken])), (a_taken, .inl (cI, 96, .inl ft)), (a_holders, .inr (1, [.int 4, .ref ac])), (ac, .inl (cI, L, .inl fc1_pu))] := hD
  refine lv_iload_n hx hb dX2_give_10 rfl (lv_at hl 3 rfl) ?_
  refine lv_iconst (v := (-1)) hx hb dX2_give_11 (by decide) ?_
  refine lv_icmp_eq (tgt := 29) hx hb dX2_give_12 (by decide) (fun cc => ?_) (fun cc => ?_)
  · have tcc := t_eq cc
    exact hret (fc1_pu, ft) _ _ _ _ (show InR fc1_pu L (-1) 24 ∧ fc1_pu = upd fc (4 * d.toNatClampNeg + k.toNatClampNeg) i ∧ ft = givF ft i k from by first | exact ⟨hw_pu.1, hw_pu.2, by unfold givF; rw [if_pos cc]⟩ | exact ⟨hw_pu.1, hw_pu.2, by unfold givF; rw [if_neg cc, egt, ezv, eyv, ix4 (i := i) (k := k) (by omega) (by omega) (by omega)]⟩) (hP.sub [0, 2, 3, 1] rfl) (hD.sub [0, 2, 3, 1] (by decide +kernel) rfl) hS dX2_give_29
  · have tcc := t_neq cc
    refine lv_aload_n hx hb dX2_give_15 rfl (lv_at hl 0 rfl) ?_
    refine va_get (D := D) (ci := 2) (v := .ref a_taken) (C := RX2) (T := TX2) (N := 2) hx hb hts in_e_give_X2 hown hK.1 hP 0 rfl rfl 1 (by decide) lk1 (fun _ h9 => h9) rfl dX2_give_16 ?_
    refine lv_iload_n hx hb dX2_give_19 rfl (lv_at hl 3 rfl) ?_
    refine lv_iconst (v := 4) hx hb dX2_give_20 (by decide) ?_
    refine lv_imul hx hb dX2_give_21 ?_
    refine lv_topi (fun x_2 ex_2 => ?_)
    first | have tx_2 := t_mulK kk4 ex_2 (by omega) (by omega) | skip
    refine lv_iload_n hx hb dX2_give_22 rfl (lv_at hl 2 rfl) ?_
    refine lv_iadd hx hb dX2_give_23 ?_
    refine lv_topi (fun ix eix => ?_)
    first | have tix := t_add eix (by omega) (by omega) | skip
    refine lv_dup2_11 hx hb dX2_give_24 rfl rfl ?_
    refine va_iald hx hb hK.1 hP 1 0 rfl rfl (t_in (by omega) (by omega)) dX2_give_25 ?_
    refine lv_topi (fun yv eyv => ?_)
    refine lv_iconst (v := 1) hx hb dX2_give_26 (by decide) ?_
    refine lv_iadd hx hb dX2_give_27 ?_
    refine lv_topi (fun zv ezv => ?_)
    refine va_iast hx hb hK.1 hP hD hS 1 0 rfl rfl (t_in (by omega) (by omega)) dX2_give_28 (fun H locs hP hD hS => ?_)
    obtain ⟨gt, egt⟩ : ∃ z : Nat → Int32, z = upd ft ((ix : Int32).toNatClampNeg) zv := ⟨_, rfl⟩
    rw [← egt] at hP hD
    have hP : va_P D vwCl [(h, .inr (2, [.ref a_holders, .ref a_taken])), (a_taken, .inl (cI, 96, .inl gt)), (a_holders, .inr (1, [.int 4, .ref ac])), (ac, .inl (cI, L, .inl fc1_pu))] H := hP
    have hD : va_D A [(h, .inr (2, [.ref a_holders, .ref a_taken])), (a_taken, .inl (cI, 96, .inl gt)), (a_holders, .inr (1, [.int 4, .ref ac])), (ac, .inl (cI, L, .inl fc1_pu))] := hD
    exact hret (fc1_pu, gt) _ _ _ _ (show InR fc1_pu L (-1) 24 ∧ fc1_pu = upd fc (4 * d.toNatClampNeg + k.toNatClampNeg) i ∧ gt = givF ft i k from by first | exact ⟨hw_pu.1, hw_pu.2, by unfold givF; rw [if_pos cc]⟩ | exact ⟨hw_pu.1, hw_pu.2, by unfold givF; rw [if_neg cc, egt, ezv, eyv, ix4 (i := i) (k := k) (by omega) (by omega) (by omega)]⟩) (hP.sub [0, 2, 3, 1] rfl) (hD.sub [0, 2, 3, 1] (by decide +kernel) rfl) hS dX2_give_29

theorem in_e_share_X2 : ∀ w ∈ wsX20, w ∈ wsX2_share := tl_X2_share_X2
set_option maxHeartbeats 8000000 in
set_option maxRecDepth 100000 in
theorem e_share {l : Launch} {D : va_G} {cI cZ cB : ClassId} {sz : Nat} {h a_holders a_taken ac L hm ma_priests ma_barred ma_cameOn ma_absent ma_absentFrom ma_absentTo : Nat} {mv_size mv_rows : Int32} {fc ft mf_barred mf_cameOn mf_absent mf_absentFrom mf_absentTo : Nat → Int32} {d : Int32} (hL : L < 65536) (hmv_size0 : 0 ≤ mv_size.toInt) (hmv_size1 : mv_size.toInt ≤ 24) (hmv_rows0 : 0 ≤ mv_rows.toInt) (hmv_rows1 : mv_rows.toInt ≤ 60) (hd : (d.toInt + 1) * 4 ≤ L) (hd0 : 0 ≤ d.toInt) (hd1 : d.toInt ≤ 1094) (hr : InR fc L (-1) 24) : Met l yX2_share wsX2_share ({ frames := 5, cells := 0, slots := 0, locals := 115 }) (RW D cI cZ cB [.ref h, .ref hm, .int d] sz [(h, .inr (2, [.ref a_holders, .ref a_taken])), (a_holders, .inr (1, [.int 4, .ref ac])), (ac, .inl (cI, L, .inl fc)), (a_taken, .inl (cI, 96, .inl ft)), (hm, .inr (5, [.ref ma_priests, .ref ma_barred, .ref ma_cameOn, .ref ma_absent, .ref ma_absentFrom, .ref ma_absentTo, .int mv_size, .int mv_rows])), (ma_barred, .inl (cI, 24, .inl mf_barred)), (ma_cameOn, .inl (cI, 24, .inl mf_cameOn)), (ma_absent, .inl (cI, 60, .inl mf_absent)), (ma_absentFrom, .inl (cI, 60, .inl mf_absentFrom)), (ma_absentTo, .inl (cI, 60, .inl mf_absentTo))]) (va_Qv (fun u : (Nat → Int32) × (Nat → Int32) => InR u.1 L (-1) 24 ∧ (∃ fg_ : Nat → Int32, Al (fun q_ => fg_ q_ = fc q_) L ∧ ShareR (okS mf_barred mf_cameOn mf_absent mf_absentFrom mf_absentTo mv_rows.toInt d) mv_size.toInt d.toNatClampNeg 4 (clrF fg_ d.toNatClampNeg 4) ft u.1 u.2)) (BW D [(h, .inr (2, [.ref a_holders, .ref a_taken])), (a_holders, .inr (1, [.int 4, .ref ac])), (ac, .inl (cI, L, .inl fc)), (a_taken, .inl (cI, 96, .inl ft)), (hm, .inr (5, [.ref ma_priests, .ref ma_barred, .ref ma_cameOn, .ref ma_absent, .ref ma_absentFrom, .ref ma_absentTo, .int mv_size, .int mv_rows])), (ma_barred, .inl (cI, 24, .inl mf_barred)), (ma_cameOn, .inl (cI, 24, .inl mf_cameOn)), (ma_absent, .inl (cI, 60, .inl mf_absent)), (ma_absentFrom, .inl (cI, 60, .inl mf_absentFrom)), (ma_absentTo, .inl (cI, 60, .inl mf_absentTo))] sz (fun u : (Nat → Int32) × (Nat → Int32) => [(h, .inr (2, [.ref a_holders, .ref a_taken])), (a_holders, .inr (1, [.int 4, .ref ac])), (ac, .inl (cI, L, .inl u.1)), (a_taken, .inl (cI, 96, .inl u.2)), (hm, .inr (5, [.ref ma_priests, .ref ma_barred, .ref ma_cameOn, .ref ma_absent, .ref ma_absentFrom, .ref ma_absentTo, .int mv_size, .int mv_rows])), (ma_barred, .inl (cI, 24, .inl mf_barred)), (ma_cameOn, .inl (cI, 24, .inl mf_cameOn)), (ma_absent, .inl (cI, 60, .inl mf_absent)), (ma_absentFrom, .inl (cI, 60, .inl mf_absentFrom)), (ma_absentTo, .inl (cI, 60, .inl mf_absentTo))])) (va_A [(h, .inr (2, [.ref a_holders, .ref a_taken])), (a_holders, .inr (1, [.int 4, .ref ac])), (ac, .inl (cI, L, .inl fc)), (a_taken, .inl (cI, 96, .inl ft)), (hm, .inr (5, [.ref ma_priests, .ref ma_barred, .ref ma_cameOn, .ref ma_absent, .ref ma_absentFrom, .ref ma_absentTo, .int mv_size, .int mv_rows])), (ma_barred, .inl (cI, 24, .inl mf_barred)), (ma_cameOn, .inl (cI, 24, .inl mf_cameOn)), (ma_absent, .inl (cI, 60, .inl mf_absent)), (ma_absentFrom, .inl (cI, 60, .inl mf_absentFrom)), (ma_absentTo, .inl (cI, 60, .inl mf_absentTo))] sz)) 0 (0) (va_A [(h, .inr (2, [.ref a_holders, .ref a_taken])), (a_holders, .inr (1, [.int 4, .ref ac])), (ac, .inl (cI, L, .inl fc)), (a_taken, .inl (cI, 96, .inl ft)), (hm, .inr (5, [.ref ma_priests, .ref ma_barred, .ref ma_cameOn, .ref ma_absent, .ref ma_absentFrom, .ref ma_absentTo, .int mv_size, .int mv_rows])), (ma_barred, .inl (cI, 24, .inl mf_barred)), (ma_cameOn, .inl (cI, 24, .inl mf_cameOn)), (ma_absent, .inl (cI, 60, .inl mf_absent)), (ma_absentFrom, .inl (cI, 60, .inl mf_absentFrom)), (ma_absentTo, .inl (cI, 60, .inl mf_absentTo))] sz) := by
  refine rw_retv (cc := cX2_share) (maxL := 4) (own := RX2) (by decide) rfl rfl (Nat.le_of_ble_eq_true rfl) ?_
  intro p e s m args below meth c Q A S hin hret hP hK hD hA hS ls hl
  obtain ⟨hx, hb, hml, hown, hts⟩ := id S
  have hl : lv_has ls 4 [(0, .ref h), (1, .ref hm), (2, .int d)] := hl
  have kkm1 : (-1 : Int32).toInt = -1 := by decide
  have kk0 : (0 : Int32).toInt = 0 := by decide
  have kk1 : (1 : Int32).toInt = 1 := by decide
  have kk4 : (4 : Int32).toInt = 4 := by decide
  have lk0 := hts (.fieldLink RX2 14 "AbbeyHours$Duties" "holders" "LAbbeyHours$DayTable;") (mc_X2_share_r1 _ (List.mem_of_getElem? (i := 0) rfl))
  refine lv_iconst (v := 0) hx hb dX2_share_0 (by decide) ?_
  refine lv_istore_n (lv' := [(3, .int 0), (0, .ref h), (1, .ref hm), (2, .int d)]) hx hb dX2_share_1 rfl hl (by decide) rfl (fun ls hl => ?_)
  have loop2 : ∀ (fuel : Nat) (j : Int32) (fx : Nat → Int32), 4 - j.toInt < (fuel : Int) → (0 ≤ j.toInt) → (j.toInt ≤ 4) → (InR fx L (-1) 24) → (fx = clrF fc d.toNatClampNeg j.toNatClampNeg) → ∀ (H : Heap) (locs : List Loc), va_P D vwCl [(h, .inr (2, [.ref a_holders, .ref a_taken])), (a_holders, .inr (1, [.int 4, .ref ac])), (ac, .inl (cI, L, .inl fx)), (a_taken, .inl (cI, 96, .inl ft)), (hm, .inr (5, [.ref ma_priests, .ref ma_barred, .ref ma_cameOn, .ref ma_absent, .ref ma_absentFrom, .ref ma_absentTo, .int mv_size, .int mv_rows])), (ma_barred, .inl (cI, 24, .inl mf_barred)), (ma_cameOn, .inl (cI, 24, .inl mf_cameOn)), (ma_absent, .inl (cI, 60, .inl mf_absent)), (ma_absentFrom, .inl (cI, 60, .inl mf_absentFrom)), (ma_absentTo, .inl (cI, 60, .inl mf_absentTo))] H → va_D A [(h, .inr (2, [.ref a_holders, .ref a_taken])), (a_holders, .inr (1, [.int 4, .ref ac])), (ac, .inl (cI, L, .inl fx)), (a_taken, .inl (cI, 96, .inl ft)), (hm, .inr (5, [.ref ma_priests, .ref ma_barred, .ref ma_cameOn, .ref ma_absent, .ref ma_absentFrom, .ref ma_absentTo, .int mv_size, .int mv_rows])), (ma_barred, .inl (cI, 24, .inl mf_barred)), (ma_cameOn, .inl (cI, 24, .inl mf_cameOn)), (ma_absent, .inl (cI, 60, .inl mf_absent)), (ma_absentFrom, .inl (cI, 60, .inl mf_absentFrom)), (ma_absentTo, .inl (cI, 60, .inl mf_absentTo))] → va_S A s.heap H locs → ∀ ls : Array Slot, lv_has ls 4 [(3, .int j), (0, .ref h), (1, .ref hm), (2, .int d)] → W p l e ({ frames := 5, cells := 0, slots := 0, locals := 115 } : Room) s m args below meth c H locs 0 (0) Q (F0 m 2 ls []) := by
    intro fuel
    induction fuel with
    | zero =>
      intro j fx hmu hj0 hj1 hr1 hcl H locs hP hD hS ls hl
      exfalso; omega
    | succ fuel ih2 =>
      intro j fx hmu hj0 hj1 hr1 hcl H locs hP hD hS ls hl
      refine lv_iload_n hx hb dX2_share_2 rfl (lv_at hl 0 rfl) ?_
      refine lv_iconst (v := 4) hx hb dX2_share_3 (by decide) ?_
      refine lv_icmp_ge (tgt := 23) hx hb dX2_share_4 (by decide) (fun c_1 => ?_) (fun c_1 => ?_)
      · have tc_1 := t_le c_1
        refine lv_iconst (v := 0) hx hb dX2_share_23 (by decide) ?_
        refine lv_istore_n (lv' := [(3, .int 0), (0, .ref h), (1, .ref hm), (2, .int d)]) hx hb dX2_share_24 rfl hl (by decide) rfl (fun ls hl => ?_)
        have loop25 : ∀ (fuel : Nat) (j : Int32) (fx2 : Nat → Int32) (ft2 : Nat → Int32), 4 - j.toInt < (fuel : Int) → (0 ≤ j.toInt) → (j.toInt ≤ 4) → (InR fx2 L (-1) 24) → (ShareR (okS mf_barred mf_cameOn mf_absent mf_absentFrom mf_absentTo mv_rows.toInt d) mv_size.toInt d.toNatClampNeg j.toNatClampNeg (clrF fc d.toNatClampNeg 4) ft fx2 ft2) → ∀ (H : Heap) (locs : List Loc), va_P D vwCl [(h, .inr (2, [.ref a_holders, .ref a_taken])), (a_holders, .inr (1, [.int 4, .ref ac])), (ac, .inl (cI, L, .inl fx2)), (a_taken, .inl (cI, 96, .inl ft2)), (hm, .inr (5, [.ref ma_priests, .ref ma_barred, .ref ma_cameOn, .ref ma_absent, .ref ma_absentFrom, .ref ma_absentTo, .int mv_size, .int mv_rows])), (ma_barred, .inl (cI, 24, .inl mf_barred)), (ma_cameOn, .inl (cI, 24, .inl mf_cameOn)), (ma_absent, .inl (cI, 60, .inl mf_absent)), (ma_absentFrom, .inl (cI, 60, .inl mf_absentFrom)), (ma_absentTo, .inl (cI, 60, .inl mf_absentTo))] H → va_D A [(h, .inr (2, [.ref a_holders, .ref a_taken])), (a_holders, .inr (1, [.int 4, .ref ac])), (ac, .inl (cI, L, .inl fx2)), (a_taken, .inl (cI, 96, .inl ft2)), (hm, .inr (5, [.ref ma_priests, .ref ma_barred, .ref ma_cameOn, .ref ma_absent, .ref ma_absentFrom, .ref ma_absentTo, .int mv_size, .int mv_rows])), (ma_barred, .inl (cI, 24, .inl mf_barred)), (ma_cameOn, .inl (cI, 24, .inl mf_cameOn)), (ma_absent, .inl (cI, 60, .inl mf_absent)), (ma_absentFrom, .inl (cI, 60, .inl mf_absentFrom)), (ma_absentTo, .inl (cI, 60, .inl mf_absentTo))] → va_S A s.heap H locs → ∀ ls : Array Slot, lv_has ls 4 [(3, .int j), (0, .ref h), (1, .ref hm), (2, .int d)] → W p l e ({ frames := 5, cells := 0, slots := 0, locals := 115 } : Room) s m args below meth c H locs 0 (0) Q (F0 m 25 ls []) := by
          intro fuel
          induction fuel with
          | zero =>
            intro j fx2 ft2 hmu hj0 hj1 hr2 hsh H locs hP hD hS ls hl
            exfalso; omega
          | succ fuel ih25 =>
            intro j fx2 ft2 hmu hj0 hj1 hr2 hsh H locs hP hD hS ls hl
            refine lv_iload_n hx hb dX2_share_25 rfl (lv_at hl 0 rfl) ?_
            refine lv_iconst (v := 4) hx hb dX2_share_26 (by decide) ?_
            refine lv_icmp_ge (tgt := 49) hx hb dX2_share_27 (by decide) (fun c_2 => ?_) (fun c_2 => ?_)
            · have tc_2 := t_le c_2
              exact hret (fx2, ft2) _ _ _ _ (show InR fx2 L (-1) 24 ∧ (∃ fg_ : Nat → Int32, Al (fun q_ => fg_ q_ = fc q_) L ∧ ShareR (okS mf_barred mf_cameOn mf_absent mf_absentFrom mf_absentTo mv_rows.toInt d) mv_size.toInt d.toNatClampNeg 4 (clrF fg_ d.toNatClampNeg 4) ft fx2 ft2) from ⟨hr2, fc, fun _ _ => rfl, by have e4 : j.toNatClampNeg = 4 := by { have := t_cl (x := j) (by omega); omega }; rw [e4] at hsh; exact hsh⟩) (hP.sub [0, 1, 2, 3, 4, 5, 6, 7, 8, 9] rfl) (hD.sub [0, 1, 2, 3, 4, 5, 6, 7, 8, 9] (by decide +kernel) rfl) hS dX2_share_49
            · have tc_2 := t_nle c_2
              refine lv_aload_n hx hb dX2_share_30 rfl (lv_at hl 1 rfl) ?_
              refine lv_iload_n hx hb dX2_share_31 rfl (lv_at hl 3 rfl) ?_
              refine lv_iload_n hx hb dX2_share_32 rfl (lv_at hl 0 rfl) ?_
              refine lv_aload_n hx hb dX2_share_33 rfl (lv_at hl 1 rfl) ?_
              refine lv_aload_n hx hb dX2_share_34 rfl (lv_at hl 2 rfl) ?_
              refine lv_iload_n hx hb dX2_share_35 rfl (lv_at hl 3 rfl) ?_
              refine lv_iload_n hx hb dX2_share_36 rfl (lv_at hl 0 rfl) ?_
              have hPc := hP.sub (ws' := [(h, .inr (2, [.ref a_holders, .ref a_taken])), (a_holders, .inr (1, [.int 4, .ref ac])), (ac, .inl (cI, L, .inl fx2)), (a_taken, .inl (cI, 96, .inl ft2)), (hm, .inr (5, [.ref ma_priests, .ref ma_barred, .ref ma_cameOn, .ref ma_absent, .ref ma_absentFrom, .ref ma_absentTo, .int mv_size, .int mv_rows])), (ma_barred, .inl (cI, 24, .inl mf_barred)), (ma_cameOn, .inl (cI, 24, .inl mf_cameOn)), (ma_absent, .inl (cI, 60, .inl mf_absent)), (ma_absentFrom, .inl (cI, 60, .inl mf_absentFrom)), (ma_absentTo, .inl (cI, 60, .inl mf_absentTo))]) [0, 1, 2, 3, 4, 5, 6, 7, 8, 9] rfl
              refine roV (As := [.ref hm, .int d, .int j]) (rest := [.int j, .int d, .ref h]) S (e_choose  (by omega) (by omega) (by omega) (by omega) (by omega) (by omega) (by omega) (by omega) (by omega) (by omega)) (cwV 3 hts gX2_share_X2_choose rfl rfl rfl ⟨rfl, hd_X2_choose⟩ ⟨Nat.le_of_ble_eq_true rfl, Nat.le_of_ble_eq_true rfl⟩) hK hPc (va_recv hK.1 hPc (ci := 2) (q0 := 0) rfl rfl) rfl hl.1 rfl (Nat.le_of_ble_eq_true rfl) dX2_share_37 ⟨Nat.le_of_ble_eq_true rfl, Nat.le_of_ble_eq_true rfl⟩ (fun r_ch hw_ch => ?_)
              have hw_ch : IsPick (okS mf_barred mf_cameOn mf_absent mf_absentFrom mf_absentTo mv_rows.toInt d fx2 j) (keyD ft2 j) mv_size.toInt r_ch := hw_ch
              have hch := hw_ch.rg
              have hch : r_ch.toInt = -1 ∨ (0 ≤ r_ch.toInt ∧ r_ch.toInt < 24) := by omega
              have hPc := hP.sub (ws' := [(h, .inr (2, [.ref a_holders, .ref a_taken])), (a_holders, .inr (1, [.int 4, .ref ac])), (ac, .inl (cI, L, .inl fx2)), (a_taken, .inl (cI, 96, .inl ft2))]) [0, 1, 2, 3] rfl
              refine rwVv (As := [.int d, .int j, .int r_ch]) (rest := []) (wc := [(h, .inr (2, [.ref a_holders, .ref a_taken])), (a_holders, .inr (1, [.int 4, .ref ac])), (ac, .inl (cI, L, .inl fx2)), (a_taken, .inl (cI, 96, .inl ft2))]) (wr := [(hm, .inr (5, [.ref ma_priests, .ref ma_barred, .ref ma_cameOn, .ref ma_absent, .ref ma_absentFrom, .ref ma_absentTo, .int mv_size, .int mv_rows])), (ma_barred, .inl (cI, 24, .inl mf_barred)), (ma_cameOn, .inl (cI, 24, .inl mf_cameOn)), (ma_absent, .inl (cI, 60, .inl mf_absent)), (ma_absentFrom, .inl (cI, 60, .inl mf_absentFrom)), (ma_absentTo, .inl (cI, 60, .inl mf_absentTo))]) S (e_give  (by omega) (by omega) (by omega) (by omega) (by omega) (by omega) (hch) (hr2)) (cwV 3 hts gX2_share_X2_give rfl rfl rfl ⟨rfl, hd_X2_give⟩ ⟨Nat.le_of_ble_eq_true rfl, Nat.le_of_ble_eq_true rfl⟩) hK hP hD hS hA [0, 1, 2, 3] [4, 5, 6, 7, 8, 9] rfl rfl (by decide +kernel) (by decide +kernel) (by decide +kernel) (va_recv hK.1 hPc (ci := 2) (q0 := 0) rfl rfl) rfl hl.1 rfl (Nat.le_of_ble_eq_true rfl) dX2_share_40 ⟨Nat.le_of_ble_eq_true rfl, Nat.le_of_ble_eq_true rfl⟩ (fun u_gi H locs hw_gi hP hD hS => ?_)
              obtain ⟨fc1_gi, ft1_gi⟩ := u_gi
              have hw_gi : InR fc1_gi L (-1) 24 ∧ fc1_gi = upd fx2 (4 * d.toNatClampNeg + j.toNatClampNeg) r_ch ∧ ft1_gi = givF ft2 r_ch j := hw_gi
              have hP : va_P D vwCl [(hm, .inr (5, [.ref ma_priests, .ref ma_barred, .ref ma_cameOn, .ref ma_absent, .ref ma_absentFrom, .ref ma_absentTo, .int mv_size, .int mv_rows])), (ma_barred, .inl (cI, 24, .inl mf_barred)), (ma_cameOn, .inl (cI, 24, .inl mf_cameOn)), (ma_absent, .inl (cI, 60, .inl mf_absent)), (ma_absentFrom, .inl (cI, 60, .inl mf_absentFrom)), (ma_absentTo, .inl (cI, 60, .inl mf_absentTo)), (h, .inr (2, [.ref a_holders, .ref a_taken])), (a_holders, .inr (1, [.int 4, .ref ac])), (ac, .inl (cI, L, .inl fc1_gi)), (a_taken, .inl (cI, 96, .inl ft1_gi))] H := hP
              have hD : va_D A [(hm, .inr (5, [.ref ma_priests, .ref ma_barred, .ref ma_cameOn, .ref ma_absent, .ref ma_absentFrom, .ref ma_absentTo, .int mv_size, .int mv_rows])), (ma_barred, .inl (cI, 24, .inl mf_barred)), (ma_cameOn, .inl (cI, 24, .inl mf_cameOn)), (ma_absent, .inl (cI, 60, .inl mf_absent)), (ma_absentFrom, .inl (cI, 60, .inl mf_absentFrom)), (ma_absentTo, .inl (cI, 60, .inl mf_absentTo)), (h, .inr (2, [.ref a_holders, .ref a_taken])), (a_holders, .inr (1, [.int 4, .ref ac])), (ac, .inl (cI, L, .inl fc1_gi)), (a_taken, .inl (cI, 96, .inl ft1_gi))] := hD
              obtain ⟨x_3, ex_3⟩ : ∃ y : Int32, y = j + 1 := ⟨_, rfl⟩
              refine lv_iinc (v := x_3) (lv' := [(3, .int x_3), (0, .ref h), (1, .ref hm), (2, .int d)]) hx hb dX2_share_43 hl (k := 0) rfl (by rw [ex_3]; rfl) (by decide) rfl (fun ls hl => ?_)
              first | have tx_3 := t_add ex_3 (by omega) (by omega) | skip
              refine lv_goto (tgt := 25) hx hb dX2_share_46 (by decide) ?_
              exact ih25 x_3 fc1_gi ft1_gi (by omega) (by omega) (by omega) (hw_gi.1) (by rw [ix1 (x := x_3) (i := j) (by omega) (by omega)]; exact ⟨fx2, ft2, r_ch, hsh, by rw [nI_ix (i := j) (by omega)]; exact hw_ch, hw_gi.2.1, by rw [nI_ix (i := j) (by omega)]; exact hw_gi.2.2⟩) _ _ (hP.sub [6, 7, 8, 9, 0, 1, 2, 3, 4, 5] rfl) (hD.sub [6, 7, 8, 9, 0, 1, 2, 3, 4, 5] (by decide +kernel) rfl) hS ls (lv_sub hl [0, 1, 2, 3] rfl)
        exact loop25 ((4 - (0 : Int32).toInt).toNat + 1) 0 fx ft (by omega) (by omega) (by omega) (hr1) (by rw [ix0]; exact ⟨by rw [hcl, show j.toNatClampNeg = 4 by have := t_cl (x := j) (by omega); omega], rfl⟩) _ _ hP hD hS ls (lv_sub hl [0, 1, 2, 3] rfl)
      · have tc_1 := t_nle c_1
        refine lv_aload_n hx hb dX2_share_7 rfl (lv_at hl 1 rfl) ?_
        refine va_get (D := D) (ci := 2) (v := .ref a_holders) (C := RX2) (T := TX2) (N := 2) hx hb hts in_e_share_X2 hown hK.1 hP 0 rfl rfl 0 (by decide) lk0 (fun _ h9 => h9) rfl dX2_share_8 ?_
        refine lv_iload_n hx hb dX2_share_11 rfl (lv_at hl 3 rfl) ?_
        refine lv_iload_n hx hb dX2_share_12 rfl (lv_at hl 0 rfl) ?_
        refine lv_iconst (v := (-1)) hx hb dX2_share_13 (by decide) ?_
        have hPc := hP.sub (ws' := [(a_holders, .inr (1, [.int 4, .ref ac])), (ac, .inl (cI, L, .inl fx))]) [1, 2] rfl
        refine rwVv (As := [.int d, .int j, .int (-1)]) (rest := []) (wc := [(a_holders, .inr (1, [.int 4, .ref ac])), (ac, .inl (cI, L, .inl fx))]) (wr := [(h, .inr (2, [.ref a_holders, .ref a_taken])), (a_taken, .inl (cI, 96, .inl ft)), (hm, .inr (5, [.ref ma_priests, .ref ma_barred, .ref ma_cameOn, .ref ma_absent, .ref ma_absentFrom, .ref ma_absentTo, .int mv_size, .int mv_rows])), (ma_barred, .inl (cI, 24, .inl mf_barred)), (ma_cameOn, .inl (cI, 24, .inl mf_cameOn)), (ma_absent, .inl (cI, 60, .inl mf_absent)), (ma_absentFrom, .inl (cI, 60, .inl mf_absentFrom)), (ma_absentTo, .inl (cI, 60, .inl mf_absentTo))]) S (e_put  (by omega) (by omega) (by omega) (by omega) (by omega) (by omega) (hr1) (by omega) (by omega)) (cwV 3 hts gX2_share_X1_put rfl rfl rfl ⟨rfl, hd_X1_put⟩ ⟨Nat.le_of_ble_eq_true rfl, Nat.le_of_ble_eq_true rfl⟩) hK hP hD hS hA [1, 2] [0, 3, 4, 5, 6, 7, 8, 9] rfl rfl (by decide +kernel) (by decide +kernel) (by decide +kernel) (va_recv hK.1 hPc (ci := 1) (q0 := 0) rfl rfl) rfl hl.1 rfl (Nat.le_of_ble_eq_true rfl) dX2_share_14 ⟨Nat.le_of_ble_eq_true rfl, Nat.le_of_ble_eq_true rfl⟩ (fun u_pu H locs hw_pu hP hD hS => ?_)
        obtain ⟨fc1_pu, rfl⟩ : ∃ z, z = u_pu := ⟨_, rfl⟩
        have hw_pu : InR fc1_pu L (-1) 24 ∧ fc1_pu = upd fx (4 * d.toNatClampNeg + j.toNatClampNeg) (-1 : Int32) := hw_pu
        have hP : va_P D vwCl [(h, .inr (2, [.ref a_holders, .ref a_taken])), (a_taken, .inl (cI, 96, .inl ft)), (hm, .inr (5, [.ref ma_priests, .ref ma_barred, .ref ma_cameOn, .ref ma_absent, .ref ma_absentFrom, .ref ma_absentTo, .int mv_size, .int mv_rows])), (ma_barred, .inl (cI, 24, .inl mf_barred)), (ma_cameOn, .inl (cI, 24, .inl mf_cameOn)), (ma_absent, .inl (cI, 60, .inl mf_absent)), (ma_absentFrom, .inl (cI, 60, .inl mf_absentFrom)), (ma_absentTo, .inl (cI, 60, .inl mf_absentTo)), (a_holders, .inr (1, [.int 4, .ref ac])), (ac, .inl (cI, L, .inl fc1_pu))] H := hP
        have hD : va_D A [(h, .inr (2, [.ref a_holders, .ref a_taken])), (a_taken, .inl (cI, 96, .inl ft)), (hm, .inr (5, [.ref ma_priests, .ref ma_barred, .ref ma_cameOn, .ref ma_absent, .ref ma_absentFrom, .ref ma_absentTo, .int mv_size, .int mv_rows])), (ma_barred, .inl (cI, 24, .inl mf_barred)), (ma_cameOn, .inl (cI, 24, .inl mf_cameOn)), (ma_absent, .inl (cI, 60, .inl mf_absent)), (ma_absentFrom, .inl (cI, 60, .inl mf_absentFrom)), (ma_absentTo, .inl (cI, 60, .inl mf_absentTo)), (a_holders, .inr (1, [.int 4, .ref ac])), (ac, .inl (cI, L, .inl fc1_pu))] := hD
        obtain ⟨x_4, ex_4⟩ : ∃ y : Int32, y = j + 1 := ⟨_, rfl⟩
        refine lv_iinc (v := x_4) (lv' := [(3, .int x_4), (0, .ref h), (1, .ref hm), (2, .int d)]) hx hb dX2_share_17 hl (k := 0) rfl (by rw [ex_4]; rfl) (by decide) rfl (fun ls hl => ?_)
        first | have tx_4 := t_add ex_4 (by omega) (by omega) | skip
        refine lv_goto (tgt := 2) hx hb dX2_share_20 (by decide) ?_
        exact ih2 x_4 fc1_pu (by omega) (by omega) (by omega) (hw_pu.1) (by rw [hw_pu.2, hcl, ix1 (x := x_4) (i := j) (by omega) (by omega)]; rfl) _ _ (hP.sub [0, 8, 9, 1, 2, 3, 4, 5, 6, 7] rfl) (hD.sub [0, 8, 9, 1, 2, 3, 4, 5, 6, 7] (by decide +kernel) rfl) hS ls (lv_sub hl [0, 1, 2, 3] rfl)
  exact loop2 ((4 - (0 : Int32).toInt).toNat + 1) 0 fc (by omega) (by omega) (by omega) (hr) (by rw [ix0]; rfl) _ _ hP hD hS ls (lv_sub hl [0, 1, 2, 3] rfl)

theorem in_e_grow_X1 : ∀ w ∈ wsX10, w ∈ wsX1_grow := tl_X1_grow_X1
set_option maxHeartbeats 8000000 in
set_option maxRecDepth 100000 in
theorem e_grow {l : Launch} {D : va_G} {cI cZ cB : ClassId} {sz : Nat} {h ac L : Nat} {fc : Nat → Int32} {x : Int32} (hL : L < 65536) (hL1 : 1 ≤ L) (hx0 : 0 ≤ x.toInt) (hx1 : x.toInt ≤ 2 * L) (hr : InR fc L (-1) 24) : Met l yX1_grow wsX1_grow ({ frames := 1, cells := 1, slots := 2 * L, locals := 60 }) (RW D cI cZ cB [.ref h, .int x] sz [(h, .inr (1, [.int 4, .ref ac])), (ac, .inl (cI, L, .inl fc))]) (va_Qv (fun u : Nat × Nat × (Nat → Int32) => u.2.1 = 2 * L ∧ InR u.2.2 u.2.1 (-1) 24 ∧ Al (fun q_ => u.2.2 q_ = fc q_) L) (BW D [(h, .inr (1, [.int 4, .ref ac])), (ac, .inl (cI, L, .inl fc))] sz (fun u : Nat × Nat × (Nat → Int32) => [(h, .inr (1, [.int 4, .ref u.1])), (u.1, .inl (cI, u.2.1, .inl u.2.2))])) (va_A [(h, .inr (1, [.int 4, .ref ac])), (ac, .inl (cI, L, .inl fc))] sz)) 1 (2 * L) (va_A [(h, .inr (1, [.int 4, .ref ac])), (ac, .inl (cI, L, .inl fc))] sz) := by
  refine rw_retv (cc := cX1_grow) (maxL := 3) (own := RX1) (by decide) rfl rfl (Nat.le_of_ble_eq_true rfl) ?_
  intro p e s m args below meth c Q A S hin hret hP hK hD hA hS ls hl
  obtain ⟨hx, hb, hml, hown, hts⟩ := id S
  have hl : lv_has ls 3 [(0, .ref h), (1, .int x)] := hl
  have kk0 : (0 : Int32).toInt = 0 := by decide
  have kk2 : (2 : Int32).toInt = 2 := by decide
  have lk0 := hts (.fieldLink RX1 21 "AbbeyHours$DayTable" "cells" "[I") (List.mem_cons_of_mem _ (List.mem_append_left _ (List.mem_of_getElem? (i := 0) rfl)))
  have lk1 := hts (.methodLink RX1 9 Lib.Math.max.name) (List.mem_cons_of_mem _ (List.mem_append_left _ (List.mem_of_getElem? (i := 1) rfl)))
  have lk2 := hts (.static Lib.Math.max.name) (List.mem_cons_of_mem _ (List.mem_append_left _ (List.mem_of_getElem? (i := 2) rfl)))
  have lk3 := hts (.initialized "java/lang/Math") (List.mem_cons_of_mem _ (List.mem_append_left _ (List.mem_of_getElem? (i := 3) rfl)))
  have lk4 := hts (.code Lib.Math.max.name Lib.Math.max.code 2 (some .int)) (List.mem_cons_of_mem _ (List.mem_append_left _ (List.mem_of_getElem? (i := 4) rfl)))
  have lk5 := hts (.arrayClass .int) (List.mem_cons_of_mem _ (List.mem_append_left _ (List.mem_of_getElem? (i := 5) rfl)))
  have lk6 := hts (.methodLink RX1 33 arraycopyName) (List.mem_cons_of_mem _ (List.mem_append_left _ (List.mem_of_getElem? (i := 6) rfl)))
  have lk7 := hts (.native arraycopyName) (List.mem_cons_of_mem _ (List.mem_append_left _ (List.mem_of_getElem? (i := 7) rfl)))
  have lk8 := hts (.static arraycopyName) (List.mem_cons_of_mem _ (List.mem_append_left _ (List.mem_of_getElem? (i := 8) rfl)))
  have lk9 := hts (.initialized "java/lang/System") (List.mem_cons_of_mem _ (List.mem_append_left _ (List.mem_of_getElem? (i := 9) rfl)))
  refine lv_iload_n hx hb dX1_grow_0 rfl (lv_at hl 1 rfl) ?_
  refine lv_iconst (v := 2) hx hb dX1_grow_1 (by decide) ?_
  refine lv_aload_n hx hb dX1_grow_2 rfl (lv_at hl 0 rfl) ?_
  refine va_get (D := D) (ci := 1) (v := .ref ac) (C := RX1) (T := TX1) (N := 2) hx hb hts in_e_grow_X1 hown hK.1 hP 0 rfl rfl 1 (by decide) lk0 (fun _ h9 => h9) rfl dX1_grow_3 ?_
  refine va_alen hx hb hK.1 hP 1 0 rfl rfl rfl dX1_grow_6 ?_
  refine lv_topi (fun x_1 ex_1 => ?_)
  have tx_1 : x_1.toInt = L := by rw [ex_1]; exact nI_toInt (by omega)
  refine lv_imul hx hb dX1_grow_7 ?_
  refine lv_topi (fun x_2 ex_2 => ?_)
  first | have tx_2 := t_mulL kk2 ex_2 (by omega) (by omega) | skip
  refine va_mmax hx hb (hml.trans hl.1.symm) hown lk1 lk2 lk3 lk4 (Nat.le_of_ble_eq_true rfl) (Nat.le_of_ble_eq_true rfl) (Nat.le_of_ble_eq_true rfl) (by show 0 ≤ 2 * L; omega) dX1_grow_8 ?_
  refine lv_topi (fun x_3 ex_3 => ?_)
  have tx_3 := t_max ex_3
  refine newI (atype := .int) (ty := .int) (N' := (2 * L)) hx hb lk5 rfl 0 rfl ra_int hK hP hD hS hA (nz_int (2 * L)) (fun z => by have := t_lt z; omega) (by have := t_cl (x := x_3) (by omega); omega) (by show (2 * L) * 4 ≤ 536870912; omega) (Nat.le_of_ble_eq_true rfl) (by show 0 + (2 * L) ≤ 2 * L; omega) dX1_grow_11 (fun q_4 H hP hD hS => ?_)
  have hP : va_P D vwCl [(h, .inr (1, [.int 4, .ref ac])), (ac, .inl (cI, L, .inl fc)), (q_4, .inl (cI, (2 * L), .inl (fun _ => 0)))] H := hP
  have hD : va_D A [(h, .inr (1, [.int 4, .ref ac])), (ac, .inl (cI, L, .inl fc)), (q_4, .inl (cI, (2 * L), .inl (fun _ => 0)))] := hD
  refine lv_astore_n (lv' := [(2, .ref q_4), (0, .ref h), (1, .int x)]) hx hb dX1_grow_13 rfl hl (by decide) rfl (fun ls hl => ?_)
  refine lv_aload_n hx hb dX1_grow_14 rfl (lv_at hl 1 rfl) ?_
  refine va_get (D := D) (ci := 1) (v := .ref ac) (C := RX1) (T := TX1) (N := 2) hx hb hts in_e_grow_X1 hown hK.1 hP 0 rfl rfl 1 (by decide) lk0 (fun _ h9 => h9) rfl dX1_grow_15 ?_
  refine lv_iconst (v := 0) hx hb dX1_grow_18 (by decide) ?_
  refine lv_aload_n hx hb dX1_grow_19 rfl (lv_at hl 0 rfl) ?_
  refine lv_iconst (v := 0) hx hb dX1_grow_20 (by decide) ?_
  refine lv_aload_n hx hb dX1_grow_21 rfl (lv_at hl 1 rfl) ?_
  refine va_get (D := D) (ci := 1) (v := .ref ac) (C := RX1) (T := TX1) (N := 2) hx hb hts in_e_grow_X1 hown hK.1 hP 0 rfl rfl 1 (by decide) lk0 (fun _ h9 => h9) rfl dX1_grow_22 ?_
  refine va_alen hx hb hK.1 hP 1 0 rfl rfl rfl dX1_grow_25 ?_
  refine lv_topi (fun x_5 ex_5 => ?_)
  have tx_5 : x_5.toInt = L := by rw [ex_5]; exact nI_toInt (by omega)
  have cpn := t_cl (x := x_5) (by omega)
  refine va_copyi (ty := .int) hx hb (hml.trans hl.1.symm) hown lk6 lk7 lk8 lk9 hK.1 hP hD hS 1 2 0 0 rfl rfl rfl rfl rfl (by decide) (by decide) (fun z => by have := t_lt z; omega) (by show 0 + _ ≤ _; omega) (by show 0 + _ ≤ _; omega) (fun _ _ => rfl) (Nat.le_of_ble_eq_true rfl) (Nat.le_of_ble_eq_true rfl) dX1_grow_26 (fun H locs hP hD hS => ?_)
  obtain ⟨gc, egc⟩ : ∃ z : Nat → Int32, z = va_cpy fc (fun _ => 0) ((0 : Int32).toNatClampNeg) ((0 : Int32).toNatClampNeg) ((x_5 : Int32).toNatClampNeg) := ⟨_, rfl⟩
  rw [← egc] at hP hD
  have hP : va_P D vwCl [(h, .inr (1, [.int 4, .ref ac])), (ac, .inl (cI, L, .inl fc)), (q_4, .inl (cI, (2 * L), .inl gc))] H := hP
  have hD : va_D A [(h, .inr (1, [.int 4, .ref ac])), (ac, .inl (cI, L, .inl fc)), (q_4, .inl (cI, (2 * L), .inl gc))] := hD
  refine lv_aload_n hx hb dX1_grow_29 rfl (lv_at hl 1 rfl) ?_
  refine lv_aload_n hx hb dX1_grow_30 rfl (lv_at hl 0 rfl) ?_
  refine va_put (D := D) (ci := 1) (v := .ref q_4) (ty := .array .int) (C := RX1) (T := TX1) (N := 2) hx hb hts in_e_grow_X1 tyX1 tyX1_ok nmX1 hown hK.1 hP hD hS 0 rfl rfl 1 (by decide) lk0 (fun _ h9 => h9) rfl (by decide +kernel) rfl rfl (Nat.le_of_ble_eq_true rfl) dX1_grow_31 (fun H locs hP hD hS => ?_)
  have hP : va_P D vwCl [(h, .inr (1, [.int 4, .ref q_4])), (ac, .inl (cI, L, .inl fc)), (q_4, .inl (cI, (2 * L), .inl gc))] H := hP
  have hD : va_D A [(h, .inr (1, [.int 4, .ref q_4])), (ac, .inl (cI, L, .inl fc)), (q_4, .inl (cI, (2 * L), .inl gc))] := hD
  refine W.widen (k := 1) (n := 2 * L) (by omega) (by omega) ?_
  exact hret (q_4, (2 * L), gc) _ _ _ _ (show (2 * L) = 2 * L ∧ InR gc (2 * L) (-1) 24 ∧ Al (fun q_ => gc q_ = fc q_) L from ⟨rfl, by rw [egc]; exact hr.cpy (by omega) (by omega) (by omega), by rw [egc]; exact cpy_in (by omega)⟩) (hP.sub [0, 2] rfl) (hD.sub [0, 2] (by decide +kernel) rfl) hS dX1_grow_34

theorem in_e_putg_X1 : ∀ w ∈ wsX10, w ∈ wsX1_put := tl_X1_put_X1
set_option maxHeartbeats 8000000 in
set_option maxRecDepth 100000 in
theorem e_putg {l : Launch} {D : va_G} {cI cZ cB : ClassId} {sz : Nat} {h ac L : Nat} {fc : Nat → Int32} {d k x : Int32} (hL : L < 65536) (hL1 : 1 ≤ L) (hd : L < (d.toInt + 1) * 4) (hd2 : (d.toInt + 1) * 4 ≤ 2 * L) (hd0 : 0 ≤ d.toInt) (hd1 : d.toInt ≤ 1094) (hk0 : 0 ≤ k.toInt) (hk1 : k.toInt < 4) (hr : InR fc L (-1) 24) (hx0 : -1 ≤ x.toInt) (hx1 : x.toInt < 24) : Met l yX1_put wsX1_put ({ frames := 2, cells := 1, slots := 2 * L, locals := 82 }) (RW D cI cZ cB [.ref h, .int d, .int k, .int x] sz [(h, .inr (1, [.int 4, .ref ac])), (ac, .inl (cI, L, .inl fc))]) (va_Qv (fun u : Nat × Nat × (Nat → Int32) => u.2.1 = 2 * L ∧ InR u.2.2 u.2.1 (-1) 24 ∧ ∃ fg_ : Nat → Int32, Al (fun q_ => fg_ q_ = fc q_) L ∧ u.2.2 = upd fg_ (4 * d.toNatClampNeg + k.toNatClampNeg) x) (BW D [(h, .inr (1, [.int 4, .ref ac])), (ac, .inl (cI, L, .inl fc))] sz (fun u : Nat × Nat × (Nat → Int32) => [(h, .inr (1, [.int 4, .ref u.1])), (u.1, .inl (cI, u.2.1, .inl u.2.2))])) (va_A [(h, .inr (1, [.int 4, .ref ac])), (ac, .inl (cI, L, .inl fc))] sz)) 1 (2 * L) (va_A [(h, .inr (1, [.int 4, .ref ac])), (ac, .inl (cI, L, .inl fc))] sz) := by
  refine rw_retv (cc := cX1_put) (maxL := 4) (own := RX1) (by decide) rfl rfl (Nat.le_of_ble_eq_true rfl) ?_
  intro p e s m args below meth c Q A S hin hret hP hK hD hA hS ls hl
  obtain ⟨hx, hb, hml, hown, hts⟩ := id S
  have hl : lv_has ls 4 [(0, .ref h), (1, .int d), (2, .int k), (3, .int x)] := hl
  have kk0 : (0 : Int32).toInt = 0 := by decide
  have kk1 : (1 : Int32).toInt = 1 := by decide
  have kk4 : (4 : Int32).toInt = 4 := by decide
  have lk0 := hts (.fieldLink RX1 15 "AbbeyHours$DayTable" "width" "I") (List.mem_cons_of_mem _ (List.mem_append_left _ (List.mem_of_getElem? (i := 0) rfl)))
  have lk1 := hts (.fieldLink RX1 21 "AbbeyHours$DayTable" "cells" "[I") (List.mem_cons_of_mem _ (List.mem_append_left _ (List.mem_of_getElem? (i := 1) rfl)))
  refine lv_aload_n hx hb dX1_put_0 rfl (lv_at hl 0 rfl) ?_
  refine lv_iload_n hx hb dX1_put_1 rfl (lv_at hl 1 rfl) ?_
  refine lv_iload_n hx hb dX1_put_2 rfl (lv_at hl 2 rfl) ?_
  have hPc := hP.sub (ws' := [(h, .inr (1, [.int 4, .ref ac]))]) [0] rfl
  refine roV (As := [.int d, .int k]) (rest := []) S (d4_isCell  ) (cwV 2 hts gX1_put_X1_isCell rfl rfl rfl ⟨rfl, hd_X1_isCell⟩ ⟨Nat.le_of_ble_eq_true rfl, Nat.le_of_ble_eq_true rfl⟩) hK hPc (va_recv hK.1 hPc (ci := 1) (q0 := 0) rfl rfl) rfl hl.1 rfl (Nat.le_of_ble_eq_true rfl) dX1_put_3 ⟨Nat.le_of_ble_eq_true rfl, Nat.le_of_ble_eq_true rfl⟩ (fun r_1 hw_1 => ?_)
  have hw_1 : (r_1.toInt = 1 ∧ 0 ≤ d.toInt ∧ d.toInt < 1095 ∧ 0 ≤ k.toInt ∧ k.toInt < 4) ∨ (r_1.toInt = 0 ∧ (d.toInt < 0 ∨ 1095 ≤ d.toInt ∨ k.toInt < 0 ∨ 4 ≤ k.toInt)) := hw_1
  refine lv_if_ne (tgt := 10) hx hb dX1_put_6 (by decide) (fun c_2 => ?_) (fun c_2 => ?_)
  · have tc_2 := t_neq c_2
    refine lv_iload_n hx hb dX1_put_10 rfl (lv_at hl 1 rfl) ?_
    refine lv_iconst (v := 1) hx hb dX1_put_11 (by decide) ?_
    refine lv_iadd hx hb dX1_put_12 ?_
    refine lv_topi (fun x_3 ex_3 => ?_)
    first | have tx_3 := t_add ex_3 (by omega) (by omega) | skip
    refine lv_aload_n hx hb dX1_put_13 rfl (lv_at hl 0 rfl) ?_
    refine va_get (D := D) (ci := 1) (v := .int 4) (C := RX1) (T := TX1) (N := 2) hx hb hts in_e_putg_X1 hown hK.1 hP 0 rfl rfl 0 (by decide) lk0 (fun _ h9 => h9) rfl dX1_put_14 ?_
    refine lv_imul hx hb dX1_put_17 ?_
    refine lv_topi (fun x_4 ex_4 => ?_)
    first | have tx_4 := t_mulK kk4 ex_4 (by omega) (by omega) | skip
    refine lv_aload_n hx hb dX1_put_18 rfl (lv_at hl 0 rfl) ?_
    refine va_get (D := D) (ci := 1) (v := .ref ac) (C := RX1) (T := TX1) (N := 2) hx hb hts in_e_putg_X1 hown hK.1 hP 0 rfl rfl 1 (by decide) lk1 (fun _ h9 => h9) rfl dX1_put_19 ?_
    refine va_alen hx hb hK.1 hP 1 0 rfl rfl rfl dX1_put_22 ?_
    refine lv_topi (fun x_5 ex_5 => ?_)
    have tx_5 : x_5.toInt = L := by rw [ex_5]; exact nI_toInt (by omega)
    refine lv_icmp_le (tgt := 38) hx hb dX1_put_23 (by decide) (fun c_6 => ?_) (fun c_6 => ?_)
    · have tc_6 := t_le c_6
      exfalso; omega
    · have tc_6 := t_nle c_6
      refine lv_aload_n hx hb dX1_put_26 rfl (lv_at hl 0 rfl) ?_
      refine lv_iload_n hx hb dX1_put_27 rfl (lv_at hl 1 rfl) ?_
      refine lv_iconst (v := 1) hx hb dX1_put_28 (by decide) ?_
      refine lv_iadd hx hb dX1_put_29 ?_
      refine lv_topi (fun x_7 ex_7 => ?_)
      first | have tx_7 := t_add ex_7 (by omega) (by omega) | skip
      refine lv_aload_n hx hb dX1_put_30 rfl (lv_at hl 0 rfl) ?_
      refine va_get (D := D) (ci := 1) (v := .int 4) (C := RX1) (T := TX1) (N := 2) hx hb hts in_e_putg_X1 hown hK.1 hP 0 rfl rfl 0 (by decide) lk0 (fun _ h9 => h9) rfl dX1_put_31 ?_
      refine lv_imul hx hb dX1_put_34 ?_
      refine lv_topi (fun x_8 ex_8 => ?_)
      first | have tx_8 := t_mulK kk4 ex_8 (by omega) (by omega) | skip
      have hPc := hP.sub (ws' := [(h, .inr (1, [.int 4, .ref ac])), (ac, .inl (cI, L, .inl fc))]) [0, 1] rfl
      refine rwVv (As := [.int x_8]) (rest := []) (wc := [(h, .inr (1, [.int 4, .ref ac])), (ac, .inl (cI, L, .inl fc))]) (wr := []) S (e_grow  (by omega) (by omega) (by omega) (by omega) (hr)) (cwV 1 hts gX1_put_X1_grow rfl rfl rfl ⟨rfl, hd_X1_grow⟩ ⟨Nat.le_of_ble_eq_true rfl, Nat.le_of_ble_eq_true rfl⟩) hK hP hD hS hA [0, 1] [] rfl rfl (by decide +kernel) (by decide +kernel) (by decide +kernel) (va_recv hK.1 hPc (ci := 1) (q0 := 0) rfl rfl) rfl hl.1 rfl (Nat.le_of_ble_eq_true rfl) dX1_put_35 ⟨Nat.le_of_ble_eq_true rfl, by show 0 + (2 * L) ≤ 2 * L; omega⟩ (fun u_gr H locs hw_gr hP hD hS => ?_)
      obtain ⟨ac1_gr, L1_gr, fc1_gr⟩ := u_gr
      have hw_gr : L1_gr = 2 * L ∧ InR fc1_gr L1_gr (-1) 24 ∧ Al (fun q_ => fc1_gr q_ = fc q_) L := hw_gr
      have hP : va_P D vwCl [(h, .inr (1, [.int 4, .ref ac1_gr])), (ac1_gr, .inl (cI, L1_gr, .inl fc1_gr))] H := hP
      have hD : va_D A [(h, .inr (1, [.int 4, .ref ac1_gr])), (ac1_gr, .inl (cI, L1_gr, .inl fc1_gr))] := hD
      refine lv_aload_n hx hb dX1_put_38 rfl (lv_at hl 0 rfl) ?_
      refine va_get (D := D) (ci := 1) (v := .ref ac1_gr) (C := RX1) (T := TX1) (N := 2) hx hb hts in_e_putg_X1 hown hK.1 hP 0 rfl rfl 1 (by decide) lk1 (fun _ h9 => h9) rfl dX1_put_39 ?_
      refine lv_iload_n hx hb dX1_put_42 rfl (lv_at hl 1 rfl) ?_
      refine lv_aload_n hx hb dX1_put_43 rfl (lv_at hl 0 rfl) ?_
      refine va_get (D := D) (ci := 1) (v := .int 4) (C := RX1) (T := TX1) (N := 2) hx hb hts in_e_putg_X1 hown hK.1 hP 0 rfl rfl 0 (by decide) lk0 (fun _ h9 => h9) rfl dX1_put_44 ?_
      refine lv_imul hx hb dX1_put_47 ?_
      refine lv_topi (fun x_9 ex_9 => ?_)
      first | have tx_9 := t_mulK kk4 ex_9 (by omega) (by omega) | skip
      refine lv_iload_n hx hb dX1_put_48 rfl (lv_at hl 2 rfl) ?_
      refine lv_iadd hx hb dX1_put_49 ?_
      refine lv_topi (fun ix eix => ?_)
      first | have tix := t_add eix (by omega) (by omega) | skip
      refine lv_iload_n hx hb dX1_put_50 rfl (lv_at hl 3 rfl) ?_
      refine va_iast hx hb hK.1 hP hD hS 1 0 rfl rfl (t_in (by omega) (by omega)) dX1_put_51 (fun H locs hP hD hS => ?_)
      obtain ⟨gp, egp⟩ : ∃ z : Nat → Int32, z = upd fc1_gr ((ix : Int32).toNatClampNeg) x := ⟨_, rfl⟩
      rw [← egp] at hP hD
      have hP : va_P D vwCl [(h, .inr (1, [.int 4, .ref ac1_gr])), (ac1_gr, .inl (cI, L1_gr, .inl gp))] H := hP
      have hD : va_D A [(h, .inr (1, [.int 4, .ref ac1_gr])), (ac1_gr, .inl (cI, L1_gr, .inl gp))] := hD
      refine W.widen (k := 1) (n := 2 * L) (by omega) (by omega) ?_
      exact hret (ac1_gr, L1_gr, gp) _ _ _ _ (show L1_gr = 2 * L ∧ InR gp L1_gr (-1) 24 ∧ ∃ fg_ : Nat → Int32, Al (fun q_ => fg_ q_ = fc q_) L ∧ gp = upd fg_ (4 * d.toNatClampNeg + k.toNatClampNeg) x from ⟨hw_gr.1, by rw [egp]; exact hw_gr.2.1.put (by omega) (by omega), _, hw_gr.2.2, by rw [egp, ix4 (i := d) (k := k) (by omega) (by omega) (by omega)]⟩) (hP.sub [0, 1] rfl) (hD.sub [0, 1] (by decide +kernel) rfl) hS dX1_put_52
  · have tc_2 := t_eq c_2
    exfalso; omega

theorem in_e_shareg_X2 : ∀ w ∈ wsX20, w ∈ wsX2_share := tl_X2_share_X2
set_option maxHeartbeats 8000000 in
set_option maxRecDepth 100000 in
theorem e_shareg {l : Launch} {D : va_G} {cI cZ cB : ClassId} {sz : Nat} {h a_holders a_taken ac L hm ma_priests ma_barred ma_cameOn ma_absent ma_absentFrom ma_absentTo : Nat} {mv_size mv_rows : Int32} {fc ft mf_barred mf_cameOn mf_absent mf_absentFrom mf_absentTo : Nat → Int32} {d : Int32} (hL : L < 65536) (hL1 : 1 ≤ L) (hmv_size0 : 0 ≤ mv_size.toInt) (hmv_size1 : mv_size.toInt ≤ 24) (hmv_rows0 : 0 ≤ mv_rows.toInt) (hmv_rows1 : mv_rows.toInt ≤ 60) (hd : L < (d.toInt + 1) * 4) (hd2 : (d.toInt + 1) * 4 ≤ 2 * L) (hd0 : 0 ≤ d.toInt) (hd1 : d.toInt ≤ 1094) (hr : InR fc L (-1) 24) : Met l yX2_share wsX2_share ({ frames := 5, cells := 1, slots := 2 * L, locals := 115 }) (RW D cI cZ cB [.ref h, .ref hm, .int d] sz [(h, .inr (2, [.ref a_holders, .ref a_taken])), (a_holders, .inr (1, [.int 4, .ref ac])), (ac, .inl (cI, L, .inl fc)), (a_taken, .inl (cI, 96, .inl ft)), (hm, .inr (5, [.ref ma_priests, .ref ma_barred, .ref ma_cameOn, .ref ma_absent, .ref ma_absentFrom, .ref ma_absentTo, .int mv_size, .int mv_rows])), (ma_barred, .inl (cI, 24, .inl mf_barred)), (ma_cameOn, .inl (cI, 24, .inl mf_cameOn)), (ma_absent, .inl (cI, 60, .inl mf_absent)), (ma_absentFrom, .inl (cI, 60, .inl mf_absentFrom)), (ma_absentTo, .inl (cI, 60, .inl mf_absentTo))]) (va_Qv (fun u : Nat × Nat × (Nat → Int32) × (Nat → Int32) => u.2.1 = 2 * L ∧ InR u.2.2.1 u.2.1 (-1) 24 ∧ (∃ fg_ : Nat → Int32, Al (fun q_ => fg_ q_ = fc q_) L ∧ ShareR (okS mf_barred mf_cameOn mf_absent mf_absentFrom mf_absentTo mv_rows.toInt d) mv_size.toInt d.toNatClampNeg 4 (clrF fg_ d.toNatClampNeg 4) ft u.2.2.1 u.2.2.2)) (BW D [(h, .inr (2, [.ref a_holders, .ref a_taken])), (a_holders, .inr (1, [.int 4, .ref ac])), (ac, .inl (cI, L, .inl fc)), (a_taken, .inl (cI, 96, .inl ft)), (hm, .inr (5, [.ref ma_priests, .ref ma_barred, .ref ma_cameOn, .ref ma_absent, .ref ma_absentFrom, .ref ma_absentTo, .int mv_size, .int mv_rows])), (ma_barred, .inl (cI, 24, .inl mf_barred)), (ma_cameOn, .inl (cI, 24, .inl mf_cameOn)), (ma_absent, .inl (cI, 60, .inl mf_absent)), (ma_absentFrom, .inl (cI, 60, .inl mf_absentFrom)), (ma_absentTo, .inl (cI, 60, .inl mf_absentTo))] sz (fun u : Nat × Nat × (Nat → Int32) × (Nat → Int32) => [(h, .inr (2, [.ref a_holders, .ref a_taken])), (a_holders, .inr (1, [.int 4, .ref u.1])), (u.1, .inl (cI, u.2.1, .inl u.2.2.1)), (a_taken, .inl (cI, 96, .inl u.2.2.2)), (hm, .inr (5, [.ref ma_priests, .ref ma_barred, .ref ma_cameOn, .ref ma_absent, .ref ma_absentFrom, .ref ma_absentTo, .int mv_size, .int mv_rows])), (ma_barred, .inl (cI, 24, .inl mf_barred)), (ma_cameOn, .inl (cI, 24, .inl mf_cameOn)), (ma_absent, .inl (cI, 60, .inl mf_absent)), (ma_absentFrom, .inl (cI, 60, .inl mf_absentFrom)), (ma_absentTo, .inl (cI, 60, .inl mf_absentTo))])) (va_A [(h, .inr (2, [.ref a_holders, .ref a_taken])), (a_holders, .inr (1, [.int 4, .ref ac])), (ac, .inl (cI, L, .inl fc)), (a_taken, .inl (cI, 96, .inl ft)), (hm, .inr (5, [.ref ma_priests, .ref ma_barred, .ref ma_cameOn, .ref ma_absent, .ref ma_absentFrom, .ref ma_absentTo, .int mv_size, .int mv_rows])), (ma_barred, .inl (cI, 24, .inl mf_barred)), (ma_cameOn, .inl (cI, 24, .inl mf_cameOn)), (ma_absent, .inl (cI, 60, .inl mf_absent)), (ma_absentFrom, .inl (cI, 60, .inl mf_absentFrom)), (ma_absentTo, .inl (cI, 60, .inl mf_absentTo))] sz)) 1 (2 * L) (va_A [(h, .inr (2, [.ref a_holders, .ref a_taken])), (a_holders, .inr (1, [.int 4, .ref ac])), (ac, .inl (cI, L, .inl fc)), (a_taken, .inl (cI, 96, .inl ft)), (hm, .inr (5, [.ref ma_priests, .ref ma_barred, .ref ma_cameOn, .ref ma_absent, .ref ma_absentFrom, .ref ma_absentTo, .int mv_size, .int mv_rows])), (ma_barred, .inl (cI, 24, .inl mf_barred)), (ma_cameOn, .inl (cI, 24, .inl mf_cameOn)), (ma_absent, .inl (cI, 60, .inl mf_absent)), (ma_absentFrom, .inl (cI, 60, .inl mf_absentFrom)), (ma_absentTo, .inl (cI, 60, .inl mf_absentTo))] sz) := by
  refine rw_retv (cc := cX2_share) (maxL := 4) (own := RX2) (by decide) rfl rfl (Nat.le_of_ble_eq_true rfl) ?_
  intro p e s m args below meth c Q A S hin hret hP hK hD hA hS ls hl
  obtain ⟨hx, hb, hml, hown, hts⟩ := id S
  have hl : lv_has ls 4 [(0, .ref h), (1, .ref hm), (2, .int d)] := hl
  have kkm1 : (-1 : Int32).toInt = -1 := by decide
  have kk0 : (0 : Int32).toInt = 0 := by decide
  have kk1 : (1 : Int32).toInt = 1 := by decide
  have kk4 : (4 : Int32).toInt = 4 := by decide
  have lk0 := hts (.fieldLink RX2 14 "AbbeyHours$Duties" "holders" "LAbbeyHours$DayTable;") (mc_X2_share_r1 _ (List.mem_of_getElem? (i := 0) rfl))
  refine lv_iconst (v := 0) hx hb dX2_share_0 (by decide) ?_
  refine lv_istore_n (lv' := [(3, .int 0), (0, .ref h), (1, .ref hm), (2, .int d)]) hx hb dX2_share_1 rfl hl (by decide) rfl (fun ls hl => ?_)
  refine lv_iload_n hx hb dX2_share_2 rfl (lv_at hl 0 rfl) ?_
  refine lv_iconst (v := 4) hx hb dX2_share_3 (by decide) ?_
  refine lv_icmp_ge (tgt := 23) hx hb dX2_share_4 (by decide) (fun c_1 => ?_) (fun c_1 => ?_)
  · exact absurd c_1 (by decide)
  · have tc_1 := t_nle c_1
    refine lv_aload_n hx hb dX2_share_7 rfl (lv_at hl 1 rfl) ?_
    refine va_get (D := D) (ci := 2) (v := .ref a_holders) (C := RX2) (T := TX2) (N := 2) hx hb hts in_e_shareg_X2 hown hK.1 hP 0 rfl rfl 0 (by decide) lk0 (fun _ h9 => h9) rfl dX2_share_8 ?_
    refine lv_iload_n hx hb dX2_share_11 rfl (lv_at hl 3 rfl) ?_
    refine lv_iload_n hx hb dX2_share_12 rfl (lv_at hl 0 rfl) ?_
    refine lv_iconst (v := (-1)) hx hb dX2_share_13 (by decide) ?_
    have hPc := hP.sub (ws' := [(a_holders, .inr (1, [.int 4, .ref ac])), (ac, .inl (cI, L, .inl fc))]) [1, 2] rfl
    refine rwVv (As := [.int d, .int 0, .int (-1)]) (rest := []) (wc := [(a_holders, .inr (1, [.int 4, .ref ac])), (ac, .inl (cI, L, .inl fc))]) (wr := [(h, .inr (2, [.ref a_holders, .ref a_taken])), (a_taken, .inl (cI, 96, .inl ft)), (hm, .inr (5, [.ref ma_priests, .ref ma_barred, .ref ma_cameOn, .ref ma_absent, .ref ma_absentFrom, .ref ma_absentTo, .int mv_size, .int mv_rows])), (ma_barred, .inl (cI, 24, .inl mf_barred)), (ma_cameOn, .inl (cI, 24, .inl mf_cameOn)), (ma_absent, .inl (cI, 60, .inl mf_absent)), (ma_absentFrom, .inl (cI, 60, .inl mf_absentFrom)), (ma_absentTo, .inl (cI, 60, .inl mf_absentTo))]) S (e_putg  (by omega) (by omega) (by omega) (by omega) (by omega) (by omega) (by omega) (by omega) (hr) (by omega) (by omega)) (cwV 3 hts gX2_share_X1_put rfl rfl rfl ⟨rfl, hd_X1_put⟩ ⟨Nat.le_of_ble_eq_true rfl, Nat.le_of_ble_eq_true rfl⟩) hK hP hD hS hA [1, 2] [0, 3, 4, 5, 6, 7, 8, 9] rfl rfl (by decide +kernel) (by decide +kernel) (by decide +kernel) (va_recv hK.1 hPc (ci := 1) (q0 := 0) rfl rfl) rfl hl.1 rfl (Nat.le_of_ble_eq_true rfl) dX2_share_14 ⟨Nat.le_of_ble_eq_true rfl, by show 0 + (2 * L) ≤ 2 * L; omega⟩ (fun u_pu H locs hw_pu hP hD hS => ?_)
    obtain ⟨ac1_pu, L1_pu, fc1_pu⟩ := u_pu
    have hw_pu : L1_pu = 2 * L ∧ InR fc1_pu L1_pu (-1) 24 ∧ ∃ fg_ : Nat → Int32, Al (fun q_ => fg_ q_ = fc q_) L ∧ fc1_pu = upd fg_ (4 * d.toNatClampNeg + (0 : Int32).toNatClampNeg) (-1 : Int32) := hw_pu
    have hP : va_P D vwCl [(h, .inr (2, [.ref a_holders, .ref a_taken])), (a_taken, .inl (cI, 96, .inl ft)), (hm, .inr (5, [.ref ma_priests, .ref ma_barred, .ref ma_cameOn, .ref ma_absent, .ref ma_absentFrom, .ref ma_absentTo, .int mv_size, .int mv_rows])), (ma_barred, .inl (cI, 24, .inl mf_barred)), (ma_cameOn, .inl (cI, 24, .inl mf_cameOn)), (ma_absent, .inl (cI, 60, .inl mf_absent)), (ma_absentFrom, .inl (cI, 60, .inl mf_absentFrom)), (ma_absentTo, .inl (cI, 60, .inl mf_absentTo)), (a_holders, .inr (1, [.int 4, .ref ac1_pu])), (ac1_pu, .inl (cI, L1_pu, .inl fc1_pu))] H := hP
    have hD : va_D A [(h, .inr (2, [.ref a_holders, .ref a_taken])), (a_taken, .inl (cI, 96, .inl ft)), (hm, .inr (5, [.ref ma_priests, .ref ma_barred, .ref ma_cameOn, .ref ma_absent, .ref ma_absentFrom, .ref ma_absentTo, .int mv_size, .int mv_rows])), (ma_barred, .inl (cI, 24, .inl mf_barred)), (ma_cameOn, .inl (cI, 24, .inl mf_cameOn)), (ma_absent, .inl (cI, 60, .inl mf_absent)), (ma_absentFrom, .inl (cI, 60, .inl mf_absentFrom)), (ma_absentTo, .inl (cI, 60, .inl mf_absentTo)), (a_holders, .inr (1, [.int 4, .ref ac1_pu])), (ac1_pu, .inl (cI, L1_pu, .inl fc1_pu))] := hD
    first | (have hpg1 := hw_pu.1; have hr0 := hw_pu.2.1; obtain ⟨fg_, hfg, hfu⟩ := hw_pu.2.2) | skip
    obtain ⟨x_2, ex_2⟩ : ∃ y : Int32, y = 0 + 1 := ⟨_, rfl⟩
    obtain rfl : x_2 = 1 := by rw [ex_2]; decide
    refine lv_iinc (v := 1) (lv' := [(3, .int 1), (0, .ref h), (1, .ref hm), (2, .int d)]) hx hb dX2_share_17 hl (k := 0) rfl (by decide) (by decide) rfl (fun ls hl => ?_)
    refine lv_goto (tgt := 2) hx hb dX2_share_20 (by decide) ?_
    have loop2 : ∀ (fuel : Nat) (j : Int32) (fx : Nat → Int32), 4 - j.toInt < (fuel : Int) → (0 ≤ j.toInt) → (j.toInt ≤ 4) → (InR fx L1_pu (-1) 24) → (fx = clrF fg_ d.toNatClampNeg j.toNatClampNeg) → ∀ (H : Heap) (locs : List Loc), va_P D vwCl [(h, .inr (2, [.ref a_holders, .ref a_taken])), (a_taken, .inl (cI, 96, .inl ft)), (hm, .inr (5, [.ref ma_priests, .ref ma_barred, .ref ma_cameOn, .ref ma_absent, .ref ma_absentFrom, .ref ma_absentTo, .int mv_size, .int mv_rows])), (ma_barred, .inl (cI, 24, .inl mf_barred)), (ma_cameOn, .inl (cI, 24, .inl mf_cameOn)), (ma_absent, .inl (cI, 60, .inl mf_absent)), (ma_absentFrom, .inl (cI, 60, .inl mf_absentFrom)), (ma_absentTo, .inl (cI, 60, .inl mf_absentTo)), (a_holders, .inr (1, [.int 4, .ref ac1_pu])), (ac1_pu, .inl (cI, L1_pu, .inl fx))] H → va_D A [(h, .inr (2, [.ref a_holders, .ref a_taken])), (a_taken, .inl (cI, 96, .inl ft)), (hm, .inr (5, [.ref ma_priests, .ref ma_barred, .ref ma_cameOn, .ref ma_absent, .ref ma_absentFrom, .ref ma_absentTo, .int mv_size, .int mv_rows])), (ma_barred, .inl (cI, 24, .inl mf_barred)), (ma_cameOn, .inl (cI, 24, .inl mf_cameOn)), (ma_absent, .inl (cI, 60, .inl mf_absent)), (ma_absentFrom, .inl (cI, 60, .inl mf_absentFrom)), (ma_absentTo, .inl (cI, 60, .inl mf_absentTo)), (a_holders, .inr (1, [.int 4, .ref ac1_pu])), (ac1_pu, .inl (cI, L1_pu, .inl fx))] → va_S A s.heap H locs → ∀ ls : Array Slot, lv_has ls 4 [(3, .int j), (0, .ref h), (1, .ref hm), (2, .int d)] → W p l e ({ frames := 5, cells := 1, slots := 2 * L, locals := 115 } : Room) s m args below meth c H locs 1 (0 + (2 * L)) Q (F0 m 2 ls []) := by
      intro fuel
      induction fuel with
      | zero =>
        intro j fx hmu hj0 hj1 hr1 hcl H locs hP hD hS ls hl
        exfalso; omega
      | succ fuel ih2 =>
        intro j fx hmu hj0 hj1 hr1 hcl H locs hP hD hS ls hl
        refine lv_iload_n hx hb dX2_share_2 rfl (lv_at hl 0 rfl) ?_
        refine lv_iconst (v := 4) hx hb dX2_share_3 (by decide) ?_
        refine lv_icmp_ge (tgt := 23) hx hb dX2_share_4 (by decide) (fun c_3 => ?_) (fun c_3 => ?_)
        · have tc_3 := t_le c_3
          refine lv_iconst (v := 0) hx hb dX2_share_23 (by decide) ?_
          refine lv_istore_n (lv' := [(3, .int 0), (0, .ref h), (1, .ref hm), (2, .int d)]) hx hb dX2_share_24 rfl hl (by decide) rfl (fun ls hl => ?_)
          have loop25 : ∀ (fuel : Nat) (j : Int32) (fx2 : Nat → Int32) (ft2 : Nat → Int32), 4 - j.toInt < (fuel : Int) → (0 ≤ j.toInt) → (j.toInt ≤ 4) → (InR fx2 L1_pu (-1) 24) → (ShareR (okS mf_barred mf_cameOn mf_absent mf_absentFrom mf_absentTo mv_rows.toInt d) mv_size.toInt d.toNatClampNeg j.toNatClampNeg (clrF fg_ d.toNatClampNeg 4) ft fx2 ft2) → ∀ (H : Heap) (locs : List Loc), va_P D vwCl [(h, .inr (2, [.ref a_holders, .ref a_taken])), (a_taken, .inl (cI, 96, .inl ft2)), (hm, .inr (5, [.ref ma_priests, .ref ma_barred, .ref ma_cameOn, .ref ma_absent, .ref ma_absentFrom, .ref ma_absentTo, .int mv_size, .int mv_rows])), (ma_barred, .inl (cI, 24, .inl mf_barred)), (ma_cameOn, .inl (cI, 24, .inl mf_cameOn)), (ma_absent, .inl (cI, 60, .inl mf_absent)), (ma_absentFrom, .inl (cI, 60, .inl mf_absentFrom)), (ma_absentTo, .inl (cI, 60, .inl mf_absentTo)), (a_holders, .inr (1, [.int 4, .ref ac1_pu])), (ac1_pu, .inl (cI, L1_pu, .inl fx2))] H → va_D A [(h, .inr (2, [.ref a_holders, .ref a_taken])), (a_taken, .inl (cI, 96, .inl ft2)), (hm, .inr (5, [.ref ma_priests, .ref ma_barred, .ref ma_cameOn, .ref ma_absent, .ref ma_absentFrom, .ref ma_absentTo, .int mv_size, .int mv_rows])), (ma_barred, .inl (cI, 24, .inl mf_barred)), (ma_cameOn, .inl (cI, 24, .inl mf_cameOn)), (ma_absent, .inl (cI, 60, .inl mf_absent)), (ma_absentFrom, .inl (cI, 60, .inl mf_absentFrom)), (ma_absentTo, .inl (cI, 60, .inl mf_absentTo)), (a_holders, .inr (1, [.int 4, .ref ac1_pu])), (ac1_pu, .inl (cI, L1_pu, .inl fx2))] → va_S A s.heap H locs → ∀ ls : Array Slot, lv_has ls 4 [(3, .int j), (0, .ref h), (1, .ref hm), (2, .int d)] → W p l e ({ frames := 5, cells := 1, slots := 2 * L, locals := 115 } : Room) s m args below meth c H locs 1 (0 + (2 * L)) Q (F0 m 25 ls []) := by
            intro fuel
            induction fuel with
            | zero =>
              intro j fx2 ft2 hmu hj0 hj1 hr2 hsh H locs hP hD hS ls hl
              exfalso; omega
            | succ fuel ih25 =>
              intro j fx2 ft2 hmu hj0 hj1 hr2 hsh H locs hP hD hS ls hl
              refine lv_iload_n hx hb dX2_share_25 rfl (lv_at hl 0 rfl) ?_
              refine lv_iconst (v := 4) hx hb dX2_share_26 (by decide) ?_
              refine lv_icmp_ge (tgt := 49) hx hb dX2_share_27 (by decide) (fun c_4 => ?_) (fun c_4 => ?_)
              · have tc_4 := t_le c_4
                refine W.widen (k := 1) (n := 2 * L) (by omega) (by omega) ?_
                exact hret (ac1_pu, L1_pu, fx2, ft2) _ _ _ _ (show L1_pu = 2 * L ∧ InR fx2 L1_pu (-1) 24 ∧ (∃ fg_ : Nat → Int32, Al (fun q_ => fg_ q_ = fc q_) L ∧ ShareR (okS mf_barred mf_cameOn mf_absent mf_absentFrom mf_absentTo mv_rows.toInt d) mv_size.toInt d.toNatClampNeg 4 (clrF fg_ d.toNatClampNeg 4) ft fx2 ft2) from ⟨hpg1, hr2, fg_, hfg, by have e4 : j.toNatClampNeg = 4 := by { have := t_cl (x := j) (by omega); omega }; rw [e4] at hsh; exact hsh⟩) (hP.sub [0, 8, 9, 1, 2, 3, 4, 5, 6, 7] rfl) (hD.sub [0, 8, 9, 1, 2, 3, 4, 5, 6, 7] (by decide +kernel) rfl) hS dX2_share_49
              · have tc_4 := t_nle c_4
                refine lv_aload_n hx hb dX2_share_30 rfl (lv_at hl 1 rfl) ?_
                refine lv_iload_n hx hb dX2_share_31 rfl (lv_at hl 3 rfl) ?_
                refine lv_iload_n hx hb dX2_share_32 rfl (lv_at hl 0 rfl) ?_
                refine lv_aload_n hx hb dX2_share_33 rfl (lv_at hl 1 rfl) ?_
                refine lv_aload_n hx hb dX2_share_34 rfl (lv_at hl 2 rfl) ?_
                refine lv_iload_n hx hb dX2_share_35 rfl (lv_at hl 3 rfl) ?_
                refine lv_iload_n hx hb dX2_share_36 rfl (lv_at hl 0 rfl) ?_
                have hPc := hP.sub (ws' := [(h, .inr (2, [.ref a_holders, .ref a_taken])), (a_holders, .inr (1, [.int 4, .ref ac1_pu])), (ac1_pu, .inl (cI, L1_pu, .inl fx2)), (a_taken, .inl (cI, 96, .inl ft2)), (hm, .inr (5, [.ref ma_priests, .ref ma_barred, .ref ma_cameOn, .ref ma_absent, .ref ma_absentFrom, .ref ma_absentTo, .int mv_size, .int mv_rows])), (ma_barred, .inl (cI, 24, .inl mf_barred)), (ma_cameOn, .inl (cI, 24, .inl mf_cameOn)), (ma_absent, .inl (cI, 60, .inl mf_absent)), (ma_absentFrom, .inl (cI, 60, .inl mf_absentFrom)), (ma_absentTo, .inl (cI, 60, .inl mf_absentTo))]) [0, 8, 9, 1, 2, 3, 4, 5, 6, 7] rfl
                refine roV (As := [.ref hm, .int d, .int j]) (rest := [.int j, .int d, .ref h]) S (e_choose  (by omega) (by omega) (by omega) (by omega) (by omega) (by omega) (by omega) (by omega) (by omega) (by omega)) (cwV 3 hts gX2_share_X2_choose rfl rfl rfl ⟨rfl, hd_X2_choose⟩ ⟨Nat.le_of_ble_eq_true rfl, Nat.le_of_ble_eq_true rfl⟩) hK hPc (va_recv hK.1 hPc (ci := 2) (q0 := 0) rfl rfl) rfl hl.1 rfl (Nat.le_of_ble_eq_true rfl) dX2_share_37 ⟨Nat.le_of_ble_eq_true rfl, by show 0 + (2 * L) ≤ 2 * L; omega⟩ (fun r_ch hw_ch => ?_)
                have hw_ch : IsPick (okS mf_barred mf_cameOn mf_absent mf_absentFrom mf_absentTo mv_rows.toInt d fx2 j) (keyD ft2 j) mv_size.toInt r_ch := hw_ch
                have hch := hw_ch.rg
                have hch : r_ch.toInt = -1 ∨ (0 ≤ r_ch.toInt ∧ r_ch.toInt < 24) := by omega
                have hPc := hP.sub (ws' := [(h, .inr (2, [.ref a_holders, .ref a_taken])), (a_holders, .inr (1, [.int 4, .ref ac1_pu])), (ac1_pu, .inl (cI, L1_pu, .inl fx2)), (a_taken, .inl (cI, 96, .inl ft2))]) [0, 8, 9, 1] rfl
                refine rwVv (As := [.int d, .int j, .int r_ch]) (rest := []) (wc := [(h, .inr (2, [.ref a_holders, .ref a_taken])), (a_holders, .inr (1, [.int 4, .ref ac1_pu])), (ac1_pu, .inl (cI, L1_pu, .inl fx2)), (a_taken, .inl (cI, 96, .inl ft2))]) (wr := [(hm, .inr (5, [.ref ma_priests, .ref ma_barred, .ref ma_cameOn, .ref ma_absent, .ref ma_absentFrom, .ref ma_absentTo, .int mv_size, .int mv_rows])), (ma_barred, .inl (cI, 24, .inl mf_barred)), (ma_cameOn, .inl (cI, 24, .inl mf_cameOn)), (ma_absent, .inl (cI, 60, .inl mf_absent)), (ma_absentFrom, .inl (cI, 60, .inl mf_absentFrom)), (ma_absentTo, .inl (cI, 60, .inl mf_absentTo))]) S (e_give  (by omega) (by omega) (by omega) (by omega) (by omega) (by omega) (hch) (hr2)) (cwV 3 hts gX2_share_X2_give rfl rfl rfl ⟨rfl, hd_X2_give⟩ ⟨Nat.le_of_ble_eq_true rfl, Nat.le_of_ble_eq_true rfl⟩) hK hP hD hS hA [0, 8, 9, 1] [2, 3, 4, 5, 6, 7] rfl rfl (by decide +kernel) (by decide +kernel) (by decide +kernel) (va_recv hK.1 hPc (ci := 2) (q0 := 0) rfl rfl) rfl hl.1 rfl (Nat.le_of_ble_eq_true rfl) dX2_share_40 ⟨Nat.le_of_ble_eq_true rfl, by show 0 + (2 * L) + 0 ≤ 2 * L; omega⟩ (fun u_gi H locs hw_gi hP hD hS => ?_)
                obtain ⟨fc1_gi, ft1_gi⟩ := u_gi
                have hw_gi : InR fc1_gi L1_pu (-1) 24 ∧ fc1_gi = upd fx2 (4 * d.toNatClampNeg + j.toNatClampNeg) r_ch ∧ ft1_gi = givF ft2 r_ch j := hw_gi
                have hP : va_P D vwCl [(hm, .inr (5, [.ref ma_priests, .ref ma_barred, .ref ma_cameOn, .ref ma_absent, .ref ma_absentFrom, .ref ma_absentTo, .int mv_size, .int mv_rows])), (ma_barred, .inl (cI, 24, .inl mf_barred)), (ma_cameOn, .inl (cI, 24, .inl mf_cameOn)), (ma_absent, .inl (cI, 60, .inl mf_absent)), (ma_absentFrom, .inl (cI, 60, .inl mf_absentFrom)), (ma_absentTo, .inl (cI, 60, .inl mf_absentTo)), (h, .inr (2, [.ref a_holders, .ref a_taken])), (a_holders, .inr (1, [.int 4, .ref ac1_pu])), (ac1_pu, .inl (cI, L1_pu, .inl fc1_gi)), (a_taken, .inl (cI, 96, .inl ft1_gi))] H := hP
                have hD : va_D A [(hm, .inr (5, [.ref ma_priests, .ref ma_barred, .ref ma_cameOn, .ref ma_absent, .ref ma_absentFrom, .ref ma_absentTo, .int mv_size, .int mv_rows])), (ma_barred, .inl (cI, 24, .inl mf_barred)), (ma_cameOn, .inl (cI, 24, .inl mf_cameOn)), (ma_absent, .inl (cI, 60, .inl mf_absent)), (ma_absentFrom, .inl (cI, 60, .inl mf_absentFrom)), (ma_absentTo, .inl (cI, 60, .inl mf_absentTo)), (h, .inr (2, [.ref a_holders, .ref a_taken])), (a_holders, .inr (1, [.int 4, .ref ac1_pu])), (ac1_pu, .inl (cI, L1_pu, .inl fc1_gi)), (a_taken, .inl (cI, 96, .inl ft1_gi))] := hD
                obtain ⟨x_5, ex_5⟩ : ∃ y : Int32, y = j + 1 := ⟨_, rfl⟩
                refine lv_iinc (v := x_5) (lv' := [(3, .int x_5), (0, .ref h), (1, .ref hm), (2, .int d)]) hx hb dX2_share_43 hl (k := 0) rfl (by rw [ex_5]; rfl) (by decide) rfl (fun ls hl => ?_)
                first | have tx_5 := t_add ex_5 (by omega) (by omega) | skip
                refine lv_goto (tgt := 25) hx hb dX2_share_46 (by decide) ?_
                exact ih25 x_5 fc1_gi ft1_gi (by omega) (by omega) (by omega) (hw_gi.1) (by rw [ix1 (x := x_5) (i := j) (by omega) (by omega)]; exact ⟨fx2, ft2, r_ch, hsh, by rw [nI_ix (i := j) (by omega)]; exact hw_ch, hw_gi.2.1, by rw [nI_ix (i := j) (by omega)]; exact hw_gi.2.2⟩) _ _ (hP.sub [6, 9, 0, 1, 2, 3, 4, 5, 7, 8] rfl) (hD.sub [6, 9, 0, 1, 2, 3, 4, 5, 7, 8] (by decide +kernel) rfl) hS ls (lv_sub hl [0, 1, 2, 3] rfl)
          exact loop25 ((4 - (0 : Int32).toInt).toNat + 1) 0 fx ft (by omega) (by omega) (by omega) (hr1) (by rw [ix0]; exact ⟨by rw [hcl, show j.toNatClampNeg = 4 by have := t_cl (x := j) (by omega); omega], rfl⟩) _ _ hP hD hS ls (lv_sub hl [0, 1, 2, 3] rfl)
        · have tc_3 := t_nle c_3
          refine lv_aload_n hx hb dX2_share_7 rfl (lv_at hl 1 rfl) ?_
          refine va_get (D := D) (ci := 2) (v := .ref a_holders) (C := RX2) (T := TX2) (N := 2) hx hb hts in_e_shareg_X2 hown hK.1 hP 0 rfl rfl 0 (by decide) lk0 (fun _ h9 => h9) rfl dX2_share_8 ?_
          refine lv_iload_n hx hb dX2_share_11 rfl (lv_at hl 3 rfl) ?_
          refine lv_iload_n hx hb dX2_share_12 rfl (lv_at hl 0 rfl) ?_
          refine lv_iconst (v := (-1)) hx hb dX2_share_13 (by decide) ?_
          have hPc := hP.sub (ws' := [(a_holders, .inr (1, [.int 4, .ref ac1_pu])), (ac1_pu, .inl (cI, L1_pu, .inl fx))]) [8, 9] rfl
          refine rwVv (As := [.int d, .int j, .int (-1)]) (rest := []) (wc := [(a_holders, .inr (1, [.int 4, .ref ac1_pu])), (ac1_pu, .inl (cI, L1_pu, .inl fx))]) (wr := [(h, .inr (2, [.ref a_holders, .ref a_taken])), (a_taken, .inl (cI, 96, .inl ft)), (hm, .inr (5, [.ref ma_priests, .ref ma_barred, .ref ma_cameOn, .ref ma_absent, .ref ma_absentFrom, .ref ma_absentTo, .int mv_size, .int mv_rows])), (ma_barred, .inl (cI, 24, .inl mf_barred)), (ma_cameOn, .inl (cI, 24, .inl mf_cameOn)), (ma_absent, .inl (cI, 60, .inl mf_absent)), (ma_absentFrom, .inl (cI, 60, .inl mf_absentFrom)), (ma_absentTo, .inl (cI, 60, .inl mf_absentTo))]) S (e_put  (by omega) (by omega) (by omega) (by omega) (by omega) (by omega) (hr1) (by omega) (by omega)) (cwV 3 hts gX2_share_X1_put rfl rfl rfl ⟨rfl, hd_X1_put⟩ ⟨Nat.le_of_ble_eq_true rfl, Nat.le_of_ble_eq_true rfl⟩) hK hP hD hS hA [8, 9] [0, 1, 2, 3, 4, 5, 6, 7] rfl rfl (by decide +kernel) (by decide +kernel) (by decide +kernel) (va_recv hK.1 hPc (ci := 1) (q0 := 0) rfl rfl) rfl hl.1 rfl (Nat.le_of_ble_eq_true rfl) dX2_share_14 ⟨Nat.le_of_ble_eq_true rfl, by show 0 + (2 * L) + 0 ≤ 2 * L; omega⟩ (fun u_pu H locs hw_pu hP hD hS => ?_)
          obtain ⟨fc1_pu, rfl⟩ : ∃ z, z = u_pu := ⟨_, rfl⟩
          have hw_pu : InR fc1_pu L1_pu (-1) 24 ∧ fc1_pu = upd fx (4 * d.toNatClampNeg + j.toNatClampNeg) (-1 : Int32) := hw_pu
          have hP : va_P D vwCl [(h, .inr (2, [.ref a_holders, .ref a_taken])), (a_taken, .inl (cI, 96, .inl ft)), (hm, .inr (5, [.ref ma_priests, .ref ma_barred, .ref ma_cameOn, .ref ma_absent, .ref ma_absentFrom, .ref ma_absentTo, .int mv_size, .int mv_rows])), (ma_barred, .inl (cI, 24, .inl mf_barred)), (ma_cameOn, .inl (cI, 24, .inl mf_cameOn)), (ma_absent, .inl (cI, 60, .inl mf_absent)), (ma_absentFrom, .inl (cI, 60, .inl mf_absentFrom)), (ma_absentTo, .inl (cI, 60, .inl mf_absentTo)), (a_holders, .inr (1, [.int 4, .ref ac1_pu])), (ac1_pu, .inl (cI, L1_pu, .inl fc1_pu))] H := hP
          have hD : va_D A [(h, .inr (2, [.ref a_holders, .ref a_taken])), (a_taken, .inl (cI, 96, .inl ft)), (hm, .inr (5, [.ref ma_priests, .ref ma_barred, .ref ma_cameOn, .ref ma_absent, .ref ma_absentFrom, .ref ma_absentTo, .int mv_size, .int mv_rows])), (ma_barred, .inl (cI, 24, .inl mf_barred)), (ma_cameOn, .inl (cI, 24, .inl mf_cameOn)), (ma_absent, .inl (cI, 60, .inl mf_absent)), (ma_absentFrom, .inl (cI, 60, .inl mf_absentFrom)), (ma_absentTo, .inl (cI, 60, .inl mf_absentTo)), (a_holders, .inr (1, [.int 4, .ref ac1_pu])), (ac1_pu, .inl (cI, L1_pu, .inl fc1_pu))] := hD
          first | (have hpg1 := hw_pu.1; have hr0 := hw_pu.2.1; obtain ⟨fg_, hfg, hfu⟩ := hw_pu.2.2) | skip
          obtain ⟨x_6, ex_6⟩ : ∃ y : Int32, y = j + 1 := ⟨_, rfl⟩
          refine lv_iinc (v := x_6) (lv' := [(3, .int x_6), (0, .ref h), (1, .ref hm), (2, .int d)]) hx hb dX2_share_17 hl (k := 0) rfl (by rw [ex_6]; rfl) (by decide) rfl (fun ls hl => ?_)
          first | have tx_6 := t_add ex_6 (by omega) (by omega) | skip
          refine lv_goto (tgt := 2) hx hb dX2_share_20 (by decide) ?_
          exact ih2 x_6 fc1_pu (by omega) (by omega) (by omega) (hw_pu.1) (by rw [hw_pu.2, hcl, ix1 (x := x_6) (i := j) (by omega) (by omega)]; rfl) _ _ hP hD hS ls (lv_sub hl [0, 1, 2, 3] rfl)
    exact loop2 ((4 - (1 : Int32).toInt).toNat + 1) 1 fc1_pu (by omega) (by omega) (by omega) (hr0) (by rw [ix_1, hfu, ix0]; rfl) _ _ hP hD hS ls (lv_sub hl [0, 1, 2, 3] rfl)

theorem in_e_replace_X2 : ∀ w ∈ wsX20, w ∈ wsX2_replace := tl_X2_replace_X2
set_option maxHeartbeats 8000000 in
set_option maxRecDepth 100000 in
theorem e_replace {l : Launch} {D : va_G} {cI cZ cB : ClassId} {sz : Nat} {h a_holders a_taken ac L hm ma_priests ma_barred ma_cameOn ma_absent ma_absentFrom ma_absentTo : Nat} {mv_size mv_rows : Int32} {fc ft mf_barred mf_cameOn mf_absent mf_absentFrom mf_absentTo : Nat → Int32} {d k : Int32} (hL : L < 65536) (hmv_size0 : 0 ≤ mv_size.toInt) (hmv_size1 : mv_size.toInt ≤ 24) (hmv_rows0 : 0 ≤ mv_rows.toInt) (hmv_rows1 : mv_rows.toInt ≤ 60) (hd : (d.toInt + 1) * 4 ≤ L) (hd0 : 0 ≤ d.toInt) (hd1 : d.toInt ≤ 1094) (hk0 : 0 ≤ k.toInt) (hk1 : k.toInt < 4) (hr : InR fc L (-1) 24) : Met l yX2_replace wsX2_replace ({ frames := 5, cells := 0, slots := 0, locals := 115 }) (RW D cI cZ cB [.ref h, .ref hm, .int d, .int k] sz [(h, .inr (2, [.ref a_holders, .ref a_taken])), (a_holders, .inr (1, [.int 4, .ref ac])), (ac, .inl (cI, L, .inl fc)), (a_taken, .inl (cI, 96, .inl ft)), (hm, .inr (5, [.ref ma_priests, .ref ma_barred, .ref ma_cameOn, .ref ma_absent, .ref ma_absentFrom, .ref ma_absentTo, .int mv_size, .int mv_rows])), (ma_barred, .inl (cI, 24, .inl mf_barred)), (ma_cameOn, .inl (cI, 24, .inl mf_cameOn)), (ma_absent, .inl (cI, 60, .inl mf_absent)), (ma_absentFrom, .inl (cI, 60, .inl mf_absentFrom)), (ma_absentTo, .inl (cI, 60, .inl mf_absentTo))]) (va_Qi (fun (r : Int32) (u : (Nat → Int32) × (Nat → Int32)) => InR u.1 L (-1) 24 ∧ IsPick (okS mf_barred mf_cameOn mf_absent mf_absentFrom mf_absentTo mv_rows.toInt d fc k) (keyD ft k) mv_size.toInt r ∧ u.1 = upd fc (4 * d.toNatClampNeg + k.toNatClampNeg) r ∧ u.2 = givF (subF ft (fc (4 * d.toNatClampNeg + k.toNatClampNeg)) k) r k) (BW D [(h, .inr (2, [.ref a_holders, .ref a_taken])), (a_holders, .inr (1, [.int 4, .ref ac])), (ac, .inl (cI, L, .inl fc)), (a_taken, .inl (cI, 96, .inl ft)), (hm, .inr (5, [.ref ma_priests, .ref ma_barred, .ref ma_cameOn, .ref ma_absent, .ref ma_absentFrom, .ref ma_absentTo, .int mv_size, .int mv_rows])), (ma_barred, .inl (cI, 24, .inl mf_barred)), (ma_cameOn, .inl (cI, 24, .inl mf_cameOn)), (ma_absent, .inl (cI, 60, .inl mf_absent)), (ma_absentFrom, .inl (cI, 60, .inl mf_absentFrom)), (ma_absentTo, .inl (cI, 60, .inl mf_absentTo))] sz (fun u : (Nat → Int32) × (Nat → Int32) => [(h, .inr (2, [.ref a_holders, .ref a_taken])), (a_holders, .inr (1, [.int 4, .ref ac])), (ac, .inl (cI, L, .inl u.1)), (a_taken, .inl (cI, 96, .inl u.2)), (hm, .inr (5, [.ref ma_priests, .ref ma_barred, .ref ma_cameOn, .ref ma_absent, .ref ma_absentFrom, .ref ma_absentTo, .int mv_size, .int mv_rows])), (ma_barred, .inl (cI, 24, .inl mf_barred)), (ma_cameOn, .inl (cI, 24, .inl mf_cameOn)), (ma_absent, .inl (cI, 60, .inl mf_absent)), (ma_absentFrom, .inl (cI, 60, .inl mf_absentFrom)), (ma_absentTo, .inl (cI, 60, .inl mf_absentTo))])) (va_A [(h, .inr (2, [.ref a_holders, .ref a_taken])), (a_holders, .inr (1, [.int 4, .ref ac])), (ac, .inl (cI, L, .inl fc)), (a_taken, .inl (cI, 96, .inl ft)), (hm, .inr (5, [.ref ma_priests, .ref ma_barred, .ref ma_cameOn, .ref ma_absent, .ref ma_absentFrom, .ref ma_absentTo, .int mv_size, .int mv_rows])), (ma_barred, .inl (cI, 24, .inl mf_barred)), (ma_cameOn, .inl (cI, 24, .inl mf_cameOn)), (ma_absent, .inl (cI, 60, .inl mf_absent)), (ma_absentFrom, .inl (cI, 60, .inl mf_absentFrom)), (ma_absentTo, .inl (cI, 60, .inl mf_absentTo))] sz)) 0 (0) (va_A [(h, .inr (2, [.ref a_holders, .ref a_taken])), (a_holders, .inr (1, [.int 4, .ref ac])), (ac, .inl (cI, L, .inl fc)), (a_taken, .inl (cI, 96, .inl ft)), (hm, .inr (5, [.ref ma_priests, .ref ma_barred, .ref ma_cameOn, .ref ma_absent, .ref ma_absentFrom, .ref ma_absentTo, .int mv_size, .int mv_rows])), (ma_barred, .inl (cI, 24, .inl mf_barred)), (ma_cameOn, .inl (cI, 24, .inl mf_cameOn)), (ma_absent, .inl (cI, 60, .inl mf_absent)), (ma_absentFrom, .inl (cI, 60, .inl mf_absentFrom)), (ma_absentTo, .inl (cI, 60, .inl mf_absentTo))] sz) := by
  refine rw_ret (cc := cX2_replace) (maxL := 6) (ty := .int) (own := RX2) (by decide) rfl rfl (Nat.le_of_ble_eq_true rfl) ?_
  intro p e s m args below meth c Q A S hin hret hP hK hD hA hS ls hl
  obtain ⟨hx, hb, hml, hown, hts⟩ := id S
  have hl : lv_has ls 6 [(0, .ref h), (1, .ref hm), (2, .int d), (3, .int k)] := hl
  have kkm1 : (-1 : Int32).toInt = -1 := by decide
  have kk0 : (0 : Int32).toInt = 0 := by decide
  have kk1 : (1 : Int32).toInt = 1 := by decide
  have kk4 : (4 : Int32).toInt = 4 := by decide
  have lk0 := hts (.fieldLink RX2 22 "AbbeyHours$Duties" "taken" "[I") (mc_X2_replace_r1 _ (List.mem_of_getElem? (i := 0) rfl))
  refine lv_aload_n hx hb dX2_replace_0 rfl (lv_at hl 0 rfl) ?_
  refine lv_aload_n hx hb dX2_replace_1 rfl (lv_at hl 1 rfl) ?_
  refine lv_iload_n hx hb dX2_replace_2 rfl (lv_at hl 2 rfl) ?_
  refine lv_iload_n hx hb dX2_replace_3 rfl (lv_at hl 3 rfl) ?_
  have hPc := hP.sub (ws' := [(h, .inr (2, [.ref a_holders, .ref a_taken])), (a_holders, .inr (1, [.int 4, .ref ac])), (ac, .inl (cI, L, .inl fc)), (a_taken, .inl (cI, 96, .inl ft)), (hm, .inr (5, [.ref ma_priests, .ref ma_barred, .ref ma_cameOn, .ref ma_absent, .ref ma_absentFrom, .ref ma_absentTo, .int mv_size, .int mv_rows])), (ma_barred, .inl (cI, 24, .inl mf_barred)), (ma_cameOn, .inl (cI, 24, .inl mf_cameOn)), (ma_absent, .inl (cI, 60, .inl mf_absent)), (ma_absentFrom, .inl (cI, 60, .inl mf_absentFrom)), (ma_absentTo, .inl (cI, 60, .inl mf_absentTo))]) [0, 1, 2, 3, 4, 5, 6, 7, 8, 9] rfl
  refine roV (As := [.ref hm, .int d, .int k]) (rest := []) S (e_choose  (by omega) (by omega) (by omega) (by omega) (by omega) (by omega) (by omega) (by omega) (by omega) (by omega)) (cwV 3 hts gX2_replace_X2_choose rfl rfl rfl ⟨rfl, hd_X2_choose⟩ ⟨Nat.le_of_ble_eq_true rfl, Nat.le_of_ble_eq_true rfl⟩) hK hPc (va_recv hK.1 hPc (ci := 2) (q0 := 0) rfl rfl) rfl hl.1 rfl (Nat.le_of_ble_eq_true rfl) dX2_replace_4 ⟨Nat.le_of_ble_eq_true rfl, Nat.le_of_ble_eq_true rfl⟩ (fun r_ch hw_ch => ?_)
  have hw_ch : IsPick (okS mf_barred mf_cameOn mf_absent mf_absentFrom mf_absentTo mv_rows.toInt d fc k) (keyD ft k) mv_size.toInt r_ch := hw_ch
  have hch := hw_ch.rg
  have hch : r_ch.toInt = -1 ∨ (0 ≤ r_ch.toInt ∧ r_ch.toInt < 24) := by omega
  refine lv_istore (lv' := [(4, .int r_ch), (0, .ref h), (1, .ref hm), (2, .int d), (3, .int k)]) hx hb dX2_replace_7 hl (by decide) rfl (fun ls hl => ?_)
  refine lv_aload_n hx hb dX2_replace_9 rfl (lv_at hl 1 rfl) ?_
  refine lv_iload_n hx hb dX2_replace_10 rfl (lv_at hl 3 rfl) ?_
  refine lv_iload_n hx hb dX2_replace_11 rfl (lv_at hl 4 rfl) ?_
  have hPc := hP.sub (ws' := [(h, .inr (2, [.ref a_holders, .ref a_taken])), (a_holders, .inr (1, [.int 4, .ref ac])), (ac, .inl (cI, L, .inl fc))]) [0, 1, 2] rfl
  refine roV (As := [.int d, .int k]) (rest := []) S (e_holder  (by omega) (by omega) (by omega) (by omega) (by omega) (by omega)) (cwV 2 hts gX2_replace_X2_holder rfl rfl rfl ⟨rfl, hd_X2_holder⟩ ⟨Nat.le_of_ble_eq_true rfl, Nat.le_of_ble_eq_true rfl⟩) hK hPc (va_recv hK.1 hPc (ci := 2) (q0 := 0) rfl rfl) rfl hl.1 rfl (Nat.le_of_ble_eq_true rfl) dX2_replace_12 ⟨Nat.le_of_ble_eq_true rfl, Nat.le_of_ble_eq_true rfl⟩ (fun r_ho hw_ho => ?_)
  have hw_ho : r_ho = fc (4 * d.toNatClampNeg + k.toNatClampNeg) := hw_ho
  have hho : -1 ≤ r_ho.toInt ∧ r_ho.toInt < 24 := by rw [hw_ho]; exact hr _ (by have := t_cl (x := d) (by omega); have := t_cl (x := k) (by omega); omega)
  refine lv_istore (lv' := [(5, .int r_ho), (4, .int r_ch), (0, .ref h), (1, .ref hm), (2, .int d), (3, .int k)]) hx hb dX2_replace_15 hl (by decide) rfl (fun ls hl => ?_)
  refine lv_iload hx hb dX2_replace_17 (lv_at hl 0 rfl) ?_
  refine lv_iconst (v := (-1)) hx hb dX2_replace_19 (by decide) ?_
  refine lv_icmp_eq (tgt := 38) hx hb dX2_replace_20 (by decide) (fun cc => ?_) (fun cc => ?_)
  · have tcc := t_eq cc
    refine lv_aload_n hx hb dX2_replace_38 rfl (lv_at hl 2 rfl) ?_
    refine lv_iload_n hx hb dX2_replace_39 rfl (lv_at hl 4 rfl) ?_
    refine lv_iload_n hx hb dX2_replace_40 rfl (lv_at hl 5 rfl) ?_
    refine lv_iload hx hb dX2_replace_41 (lv_at hl 1 rfl) ?_
    have hPc := hP.sub (ws' := [(h, .inr (2, [.ref a_holders, .ref a_taken])), (a_holders, .inr (1, [.int 4, .ref ac])), (ac, .inl (cI, L, .inl fc)), (a_taken, .inl (cI, 96, .inl ft))]) [0, 1, 2, 3] rfl
    refine rwVv (As := [.int d, .int k, .int r_ch]) (rest := []) (wc := [(h, .inr (2, [.ref a_holders, .ref a_taken])), (a_holders, .inr (1, [.int 4, .ref ac])), (ac, .inl (cI, L, .inl fc)), (a_taken, .inl (cI, 96, .inl ft))]) (wr := [(hm, .inr (5, [.ref ma_priests, .ref ma_barred, .ref ma_cameOn, .ref ma_absent, .ref ma_absentFrom, .ref ma_absentTo, .int mv_size, .int mv_rows])), (ma_barred, .inl (cI, 24, .inl mf_barred)), (ma_cameOn, .inl (cI, 24, .inl mf_cameOn)), (ma_absent, .inl (cI, 60, .inl mf_absent)), (ma_absentFrom, .inl (cI, 60, .inl mf_absentFrom)), (ma_absentTo, .inl (cI, 60, .inl mf_absentTo))]) S (e_give  (by omega) (by omega) (by omega) (by omega) (by omega) (by omega) (hch) (hr)) (cwV 3 hts gX2_replace_X2_give rfl rfl rfl ⟨rfl, hd_X2_give⟩ ⟨Nat.le_of_ble_eq_true rfl, Nat.le_of_ble_eq_true rfl⟩) hK hP hD hS hA [0, 1, 2, 3] [4, 5, 6, 7, 8, 9] rfl rfl (by decide +kernel) (by decide +kernel) (by decide +kernel) (va_recv hK.1 hPc (ci := 2) (q0 := 0) rfl rfl) rfl hl.1 rfl (Nat.le_of_ble_eq_true rfl) dX2_replace_43 ⟨Nat.le_of_ble_eq_true rfl, Nat.le_of_ble_eq_true rfl⟩ (fun u_gi H locs hw_gi hP hD hS => ?_)
    obtain ⟨fc1_gi, ft1_gi⟩ := u_gi
    have hw_gi : InR fc1_gi L (-1) 24 ∧ fc1_gi = upd fc (4 * d.toNatClampNeg + k.toNatClampNeg) r_ch ∧ ft1_gi = givF ft r_ch k := hw_gi
    have hP : va_P D vwCl [(hm, .inr (5, [.ref ma_priests, .ref ma_barred, .ref ma_cameOn, .ref ma_absent, .ref ma_absentFrom, .ref ma_absentTo, .int mv_size, .int mv_rows])), (ma_barred, .inl (cI, 24, .inl mf_barred)), (ma_cameOn, .inl (cI, 24, .inl mf_cameOn)), (ma_absent, .inl (cI, 60, .inl mf_absent)), (ma_absentFrom, .inl (cI, 60, .inl mf_absentFrom)), (ma_absentTo, .inl (cI, 60, .inl mf_absentTo)), (h, .inr (2, [.ref a_holders, .ref a_taken])), (a_holders, .inr (1, [.int 4, .ref ac])), (ac, .inl (cI, L, .inl fc1_gi)), (a_taken, .inl (cI, 96, .inl ft1_gi))] H := hP
    have hD : va_D A [(hm, .inr (5, [.ref ma_priests, .ref ma_barred, .ref ma_cameOn, .ref ma_absent, .ref ma_absentFrom, .ref ma_absentTo, .int mv_size, .int mv_rows])), (ma_barred, .inl (cI, 24, .inl mf_barred)), (ma_cameOn, .inl (cI, 24, .inl mf_cameOn)), (ma_absent, .inl (cI, 60, .inl mf_absent)), (ma_absentFrom, .inl (cI, 60, .inl mf_absentFrom)), (ma_absentTo, .inl (cI, 60, .inl mf_absentTo)), (h, .inr (2, [.ref a_holders, .ref a_taken])), (a_holders, .inr (1, [.int 4, .ref ac])), (ac, .inl (cI, L, .inl fc1_gi)), (a_taken, .inl (cI, 96, .inl ft1_gi))] := hD
    refine lv_iload hx hb dX2_replace_46 (lv_at hl 1 rfl) ?_
    exact hret r_ch (fc1_gi, ft1_gi) _ _ _ _ (show InR fc1_gi L (-1) 24 ∧ IsPick (okS mf_barred mf_cameOn mf_absent mf_absentFrom mf_absentTo mv_rows.toInt d fc k) (keyD ft k) mv_size.toInt r_ch ∧ fc1_gi = upd fc (4 * d.toNatClampNeg + k.toNatClampNeg) r_ch ∧ ft1_gi = givF (subF ft (fc (4 * d.toNatClampNeg + k.toNatClampNeg)) k) r_ch k from by first | exact ⟨hw_gi.1, hw_ch, hw_gi.2.1, by rw [hw_gi.2.2, ← hw_ho]; unfold subF; rw [if_pos cc]⟩ | exact ⟨hw_gi.1, hw_ch, hw_gi.2.1, by rw [hw_gi.2.2, ← hw_ho]; unfold subF; rw [if_neg cc, egs, ezv, eyv, ix4 (i := r_ho) (k := k) (by omega) (by omega) (by omega)]⟩) rfl (hP.sub [6, 7, 8, 9, 0, 1, 2, 3, 4, 5] rfl) (hD.sub [6, 7, 8, 9, 0, 1, 2, 3, 4, 5] (by decide +kernel) rfl) hS dX2_replace_48
  · have tcc := t_neq cc
    refine lv_aload_n hx hb dX2_replace_23 rfl (lv_at hl 2 rfl) ?_
    refine va_get (D := D) (ci := 2) (v := .ref a_taken) (C := RX2) (T := TX2) (N := 2) hx hb hts in_e_replace_X2 hown hK.1 hP 0 rfl rfl 1 (by decide) lk0 (fun _ h9 => h9) rfl dX2_replace_24 ?_
    refine lv_iload hx hb dX2_replace_27 (lv_at hl 0 rfl) ?_
    refine lv_iconst (v := 4) hx hb dX2_replace_29 (by decide) ?_
    refine lv_imul hx hb dX2_replace_30 ?_
    refine lv_topi (fun x_2 ex_2 => ?_)
    first | have tx_2 := t_mulK kk4 ex_2 (by omega) (by omega) | skip
    refine lv_iload_n hx hb dX2_replace_31 rfl (lv_at hl 5 rfl) ?_
    refine lv_iadd hx hb dX2_replace_32 ?_
    refine lv_topi (fun ix eix => ?_)
    first | have tix := t_add eix (by omega) (by omega) | skip
    refine lv_dup2_11 hx hb dX2_replace_33 rfl rfl ?_
    refine va_iald hx hb hK.1 hP 3 0 rfl rfl (t_in (by omega) (by omega)) dX2_replace_34 ?_
    refine lv_topi (fun yv eyv => ?_)
    refine lv_iconst (v := 1) hx hb dX2_replace_35 (by decide) ?_
    refine lv_isub hx hb dX2_replace_36 ?_
    refine lv_topi (fun zv ezv => ?_)
    refine va_iast hx hb hK.1 hP hD hS 3 0 rfl rfl (t_in (by omega) (by omega)) dX2_replace_37 (fun H locs hP hD hS => ?_)
    obtain ⟨gs, egs⟩ : ∃ z : Nat → Int32, z = upd ft ((ix : Int32).toNatClampNeg) zv := ⟨_, rfl⟩
    rw [← egs] at hP hD
    have hP : va_P D vwCl [(h, .inr (2, [.ref a_holders, .ref a_taken])), (a_holders, .inr (1, [.int 4, .ref ac])), (ac, .inl (cI, L, .inl fc)), (a_taken, .inl (cI, 96, .inl gs)), (hm, .inr (5, [.ref ma_priests, .ref ma_barred, .ref ma_cameOn, .ref ma_absent, .ref ma_absentFrom, .ref ma_absentTo, .int mv_size, .int mv_rows])), (ma_barred, .inl (cI, 24, .inl mf_barred)), (ma_cameOn, .inl (cI, 24, .inl mf_cameOn)), (ma_absent, .inl (cI, 60, .inl mf_absent)), (ma_absentFrom, .inl (cI, 60, .inl mf_absentFrom)), (ma_absentTo, .inl (cI, 60, .inl mf_absentTo))] H := hP
    have hD : va_D A [(h, .inr (2, [.ref a_holders, .ref a_taken])), (a_holders, .inr (1, [.int 4, .ref ac])), (ac, .inl (cI, L, .inl fc)), (a_taken, .inl (cI, 96, .inl gs)), (hm, .inr (5, [.ref ma_priests, .ref ma_barred, .ref ma_cameOn, .ref ma_absent, .ref ma_absentFrom, .ref ma_absentTo, .int mv_size, .int mv_rows])), (ma_barred, .inl (cI, 24, .inl mf_barred)), (ma_cameOn, .inl (cI, 24, .inl mf_cameOn)), (ma_absent, .inl (cI, 60, .inl mf_absent)), (ma_absentFrom, .inl (cI, 60, .inl mf_absentFrom)), (ma_absentTo, .inl (cI, 60, .inl mf_absentTo))] := hD
    refine lv_aload_n hx hb dX2_replace_38 rfl (lv_at hl 2 rfl) ?_
    refine lv_iload_n hx hb dX2_replace_39 rfl (lv_at hl 4 rfl) ?_
    refine lv_iload_n hx hb dX2_replace_40 rfl (lv_at hl 5 rfl) ?_
    refine lv_iload hx hb dX2_replace_41 (lv_at hl 1 rfl) ?_
    have hPc := hP.sub (ws' := [(h, .inr (2, [.ref a_holders, .ref a_taken])), (a_holders, .inr (1, [.int 4, .ref ac])), (ac, .inl (cI, L, .inl fc)), (a_taken, .inl (cI, 96, .inl gs))]) [0, 1, 2, 3] rfl
    refine rwVv (As := [.int d, .int k, .int r_ch]) (rest := []) (wc := [(h, .inr (2, [.ref a_holders, .ref a_taken])), (a_holders, .inr (1, [.int 4, .ref ac])), (ac, .inl (cI, L, .inl fc)), (a_taken, .inl (cI, 96, .inl gs))]) (wr := [(hm, .inr (5, [.ref ma_priests, .ref ma_barred, .ref ma_cameOn, .ref ma_absent, .ref ma_absentFrom, .ref ma_absentTo, .int mv_size, .int mv_rows])), (ma_barred, .inl (cI, 24, .inl mf_barred)), (ma_cameOn, .inl (cI, 24, .inl mf_cameOn)), (ma_absent, .inl (cI, 60, .inl mf_absent)), (ma_absentFrom, .inl (cI, 60, .inl mf_absentFrom)), (ma_absentTo, .inl (cI, 60, .inl mf_absentTo))]) S (e_give  (by omega) (by omega) (by omega) (by omega) (by omega) (by omega) (hch) (hr)) (cwV 3 hts gX2_replace_X2_give rfl rfl rfl ⟨rfl, hd_X2_give⟩ ⟨Nat.le_of_ble_eq_true rfl, Nat.le_of_ble_eq_true rfl⟩) hK hP hD hS hA [0, 1, 2, 3] [4, 5, 6, 7, 8, 9] rfl rfl (by decide +kernel) (by decide +kernel) (by decide +kernel) (va_recv hK.1 hPc (ci := 2) (q0 := 0) rfl rfl) rfl hl.1 rfl (Nat.le_of_ble_eq_true rfl) dX2_replace_43 ⟨Nat.le_of_ble_eq_true rfl, Nat.le_of_ble_eq_true rfl⟩ (fun u_gi H locs hw_gi hP hD hS => ?_)
    obtain ⟨fc1_gi, ft1_gi⟩ := u_gi
    have hw_gi : InR fc1_gi L (-1) 24 ∧ fc1_gi = upd fc (4 * d.toNatClampNeg + k.toNatClampNeg) r_ch ∧ ft1_gi = givF gs r_ch k := hw_gi
    have hP : va_P D vwCl [(hm, .inr (5, [.ref ma_priests, .ref ma_barred, .ref ma_cameOn, .ref ma_absent, .ref ma_absentFrom, .ref ma_absentTo, .int mv_size, .int mv_rows])), (ma_barred, .inl (cI, 24, .inl mf_barred)), (ma_cameOn, .inl (cI, 24, .inl mf_cameOn)), (ma_absent, .inl (cI, 60, .inl mf_absent)), (ma_absentFrom, .inl (cI, 60, .inl mf_absentFrom)), (ma_absentTo, .inl (cI, 60, .inl mf_absentTo)), (h, .inr (2, [.ref a_holders, .ref a_taken])), (a_holders, .inr (1, [.int 4, .ref ac])), (ac, .inl (cI, L, .inl fc1_gi)), (a_taken, .inl (cI, 96, .inl ft1_gi))] H := hP
    have hD : va_D A [(hm, .inr (5, [.ref ma_priests, .ref ma_barred, .ref ma_cameOn, .ref ma_absent, .ref ma_absentFrom, .ref ma_absentTo, .int mv_size, .int mv_rows])), (ma_barred, .inl (cI, 24, .inl mf_barred)), (ma_cameOn, .inl (cI, 24, .inl mf_cameOn)), (ma_absent, .inl (cI, 60, .inl mf_absent)), (ma_absentFrom, .inl (cI, 60, .inl mf_absentFrom)), (ma_absentTo, .inl (cI, 60, .inl mf_absentTo)), (h, .inr (2, [.ref a_holders, .ref a_taken])), (a_holders, .inr (1, [.int 4, .ref ac])), (ac, .inl (cI, L, .inl fc1_gi)), (a_taken, .inl (cI, 96, .inl ft1_gi))] := hD
    refine lv_iload hx hb dX2_replace_46 (lv_at hl 1 rfl) ?_
    exact hret r_ch (fc1_gi, ft1_gi) _ _ _ _ (show InR fc1_gi L (-1) 24 ∧ IsPick (okS mf_barred mf_cameOn mf_absent mf_absentFrom mf_absentTo mv_rows.toInt d fc k) (keyD ft k) mv_size.toInt r_ch ∧ fc1_gi = upd fc (4 * d.toNatClampNeg + k.toNatClampNeg) r_ch ∧ ft1_gi = givF (subF ft (fc (4 * d.toNatClampNeg + k.toNatClampNeg)) k) r_ch k from by first | exact ⟨hw_gi.1, hw_ch, hw_gi.2.1, by rw [hw_gi.2.2, ← hw_ho]; unfold subF; rw [if_pos cc]⟩ | exact ⟨hw_gi.1, hw_ch, hw_gi.2.1, by rw [hw_gi.2.2, ← hw_ho]; unfold subF; rw [if_neg cc, egs, ezv, eyv, ix4 (i := r_ho) (k := k) (by omega) (by omega) (by omega)]⟩) rfl (hP.sub [6, 7, 8, 9, 0, 1, 2, 3, 4, 5] rfl) (hD.sub [6, 7, 8, 9, 0, 1, 2, 3, 4, 5] (by decide +kernel) rfl) hS dX2_replace_48

