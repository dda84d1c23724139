theorem in_e_mAble_X12 : ∀ w ∈ wsX120, w ∈ wsX12_isAble := tl_X12_isAble_X12
set_option maxHeartbeats 8000000 in
set_option maxRecDepth 100000 in
theorem e_mAble {l : Launch} {D : va_G} {cI cZ cB : ClassId} {h a_isPriest a_bars a_joined a_turns a_awayMonk a_awayFrom a_awayTo a_feastDay a_rank a_isWeekly a_isDouble a_giftDay a_giftFrom a_owed a_said a_spared a_leaveGift a_leaveFrom a_leaveTo a_lateDay a_lateOffice a_lateBy a_guests a_who a_used a_lacks a_candles a_masses a_owing a_heldOn a_waits a_tape a_text a_statements a_taken a_sort a_first a_second : Nat} {v_today v_monks v_aways v_feasts v_gifts v_leaves v_lates v_store v_allCandles v_taped v_size v_at v_fault v_rules v_wordEnd v_number : Int32} {f_joined f_awayMonk f_awayFrom f_awayTo : Nat → Int32} {i d : Int32} (h0_aways : 0 ≤ v_aways.toInt) (h1_aways : v_aways.toInt ≤ 60) (hi0 : 0 ≤ i.toInt) (hi1 : i.toInt < 24) : Met l yX12_isAble wsX12_isAble ({ frames := 1, cells := 0, slots := 0, locals := 22 }) (RO D cI cZ cB [.ref h, .int i, .int d] [(h, .inr (11, [.int v_today, .int v_monks, .int v_aways, .int v_feasts, .int v_gifts, .int v_leaves, .int v_lates, .int v_store, .int v_allCandles, .ref a_isPriest, .ref a_bars, .ref a_joined, .ref a_turns, .ref a_awayMonk, .ref a_awayFrom, .ref a_awayTo, .ref a_feastDay, .ref a_rank, .ref a_isWeekly, .ref a_isDouble, .ref a_giftDay, .ref a_giftFrom, .ref a_owed, .ref a_said, .ref a_spared, .ref a_leaveGift, .ref a_leaveFrom, .ref a_leaveTo, .ref a_lateDay, .ref a_lateOffice, .ref a_lateBy, .ref a_guests, .ref a_who, .ref a_used, .ref a_lacks, .ref a_candles, .ref a_masses, .ref a_owing, .ref a_heldOn, .ref a_waits, .ref a_tape, .ref a_text, .int v_taped, .int v_size, .int v_at, .int v_fault, .int v_rules, .ref a_statements, .ref a_taken, .ref a_sort, .ref a_first, .ref a_second, .int v_wordEnd, .int v_number])), (a_joined, .inl (cI, 24, .inl f_joined)), (a_awayMonk, .inl (cI, 60, .inl f_awayMonk)), (a_awayFrom, .inl (cI, 60, .inl f_awayFrom)), (a_awayTo, .inl (cI, 60, .inl f_awayTo))]) (vp_Si (fun r : Int32 => (r.toInt = 1 ∧ AbleP f_joined f_awayMonk f_awayFrom f_awayTo v_aways.toInt i d) ∨ (r.toInt = 0 ∧ ¬ AbleP f_joined f_awayMonk f_awayFrom f_awayTo v_aways.toInt i d))) 0 0 (fun _ => False) := by
  refine ro_ret (cc := cX12_isAble) (maxL := 5) (ty := .boolean) (own := RX12) (by decide) rfl rfl (Nat.le_of_ble_eq_true rfl) ?_
  intro p e s m args below meth c Q S hret hP hK ls hl
  obtain ⟨hx, hb, hml, hown, hts⟩ := id S
  have hl : lv_has ls 5 [(0, .ref h), (1, .int i), (2, .int d)] := hl
  have kk0 : (0 : Int32).toInt = 0 := by decide
  have kk1 : (1 : Int32).toInt = 1 := by decide
  have lk0 := hts (.fieldLink RX12 17 "AbbeyHoursModel" "joined" "[I") (List.mem_cons_of_mem _ (List.mem_append_left _ (List.mem_of_getElem? (i := 0) rfl)))
  have lk1 := hts (.fieldLink RX12 150 "AbbeyHoursModel" "aways" "I") (List.mem_cons_of_mem _ (List.mem_append_left _ (List.mem_of_getElem? (i := 1) rfl)))
  have lk2 := hts (.fieldLink RX12 23 "AbbeyHoursModel" "awayMonk" "[I") (List.mem_cons_of_mem _ (List.mem_append_left _ (List.mem_of_getElem? (i := 2) rfl)))
  have lk3 := hts (.fieldLink RX12 26 "AbbeyHoursModel" "awayFrom" "[I") (List.mem_cons_of_mem _ (List.mem_append_left _ (List.mem_of_getElem? (i := 3) rfl)))
  have lk4 := hts (.fieldLink RX12 29 "AbbeyHoursModel" "awayTo" "[I") (List.mem_cons_of_mem _ (List.mem_append_left _ (List.mem_of_getElem? (i := 4) rfl)))
  refine lv_aload_n hx hb dX12_isAble_0 rfl (lv_at hl 0 rfl) ?_
  refine va_get (D := D) (ci := 11) (v := .ref a_joined) (C := RX12) (T := TX12) (N := 54) hx hb hts in_e_mAble_X12 hown hK.1 hP 0 rfl rfl 11 (by decide) lk0 (fun _ h9 => h9) rfl dX12_isAble_1 ?_
  refine lv_iload_n hx hb dX12_isAble_4 rfl (lv_at hl 1 rfl) ?_
  refine va_iald hx hb hK.1 hP 1 0 rfl rfl (t_in (by omega) (by omega)) dX12_isAble_5 ?_
  refine lv_topi (fun yj eyj => ?_)
  refine lv_iload_n hx hb dX12_isAble_6 rfl (lv_at hl 2 rfl) ?_
  refine lv_icmp_gt (tgt := 14) hx hb dX12_isAble_7 (by decide) (fun c_2 => ?_) (fun c_2 => ?_)
  · have tc_2 := t_lt c_2
    refine lv_iconst (v := 0) hx hb dX12_isAble_14 (by decide) ?_
    refine lv_istore_n (lv' := [(3, .int 0), (0, .ref h), (1, .int i), (2, .int d)]) hx hb dX12_isAble_15 rfl hl (by decide) rfl (fun ls hl => ?_)
    refine lv_iconst (v := 0) hx hb dX12_isAble_16 (by decide) ?_
    refine lv_istore (lv' := [(4, .int 0), (3, .int 0), (0, .ref h), (1, .int i), (2, .int d)]) hx hb dX12_isAble_17 hl (by decide) rfl (fun ls hl => ?_)
    have loop19 : ∀ (fuel : Nat) (a : Int32) (j : Int32), v_aways.toInt - j.toInt < (fuel : Int) → (0 ≤ j.toInt) → (j.toInt ≤ v_aways.toInt) → ((a.toInt = 1 ∧ AbleP f_joined f_awayMonk f_awayFrom f_awayTo j.toInt i d) ∨ (a.toInt = 0 ∧ ¬ AbleP f_joined f_awayMonk f_awayFrom f_awayTo j.toInt i d)) → ∀ ls : Array Slot, lv_has ls 5 [(4, .int j), (3, .int a), (0, .ref h), (1, .int i), (2, .int d)] → W p l e ({ frames := 1, cells := 0, slots := 0, locals := 22 } : Room) s m args below meth c s.heap [] 0 0 Q (F0 m 19 ls []) := by
      intro fuel
      induction fuel with
      | zero =>
        intro a j hmu hj0 hj1 ha ls hl
        exfalso; omega
      | succ fuel ih19 =>
        intro a j hmu hj0 hj1 ha ls hl
        have ha01 := if01 ha
        refine lv_iload hx hb dX12_isAble_19 (lv_at hl 0 rfl) ?_
        refine lv_aload_n hx hb dX12_isAble_21 rfl (lv_at hl 2 rfl) ?_
        refine va_get (D := D) (ci := 11) (v := .int v_aways) (C := RX12) (T := TX12) (N := 54) hx hb hts in_e_mAble_X12 hown hK.1 hP 0 rfl rfl 2 (by decide) lk1 (fun _ h9 => h9) rfl dX12_isAble_22 ?_
        refine lv_icmp_ge (tgt := 76) hx hb dX12_isAble_25 (by decide) (fun c_3 => ?_) (fun c_3 => ?_)
        · have tc_3 := t_le c_3
          refine lv_iload_n hx hb dX12_isAble_76 rfl (lv_at hl 1 rfl) ?_
          exact hret a _ _ (show (a.toInt = 1 ∧ AbleP f_joined f_awayMonk f_awayFrom f_awayTo v_aways.toInt i d) ∨ (a.toInt = 0 ∧ ¬ AbleP f_joined f_awayMonk f_awayFrom f_awayTo v_aways.toInt i d) from by rw [show v_aways.toInt = j.toInt by omega]; exact ha) (zb (by omega)) dX12_isAble_77
        · have tc_3 := t_nle c_3
          refine lv_iload_n hx hb dX12_isAble_28 rfl (lv_at hl 1 rfl) ?_
          refine lv_if_eq (tgt := 68) hx hb dX12_isAble_29 (by decide) (fun c_4 => ?_) (fun c_4 => ?_)
          · have tc_4 := t_eq c_4
            refine lv_iconst (v := 0) hx hb dX12_isAble_68 (by decide) ?_
            refine lv_istore_n (lv' := [(3, .int 0), (4, .int j), (0, .ref h), (1, .int i), (2, .int d)]) hx hb dX12_isAble_69 rfl hl (by decide) rfl (fun ls hl => ?_)
            obtain ⟨x_5, ex_5⟩ : ∃ y : Int32, y = j + 1 := ⟨_, rfl⟩
            refine lv_iinc (v := x_5) (lv' := [(4, .int x_5), (3, .int 0), (0, .ref h), (1, .int i), (2, .int d)]) hx hb dX12_isAble_70 hl (k := 1) rfl (by rw [ex_5]; rfl) (by decide) rfl (fun ls hl => ?_)
            first | have tx_5 := t_add ex_5 (by omega) (by omega) | skip
            refine lv_goto (tgt := 19) hx hb dX12_isAble_73 (by decide) ?_
            exact ih19 0 x_5 (by omega) (by omega) (by omega) (by first | exact Or.inl ⟨by omega, (if1 ha (by omega)).1, (if1 ha (by omega)).2.up (i := j) (by omega) (fun h => by have h1 := h.1; have h2 := h.2; rw [← eya] at h1; first | (have := t_eq h1; omega) | (rw [← eyf, ← eyt] at h2; omega)) (by omega)⟩ | exact Or.inr ⟨by omega, fun h => if0 ha (by omega) ⟨h.1, h.2.to (by omega)⟩⟩ | exact Or.inr ⟨by omega, fun h => Al.no (i := j) (by omega) (by omega) (fun q => q ⟨by rw [← eya]; exact i32_ext (by omega), by rw [← eyf]; omega, by rw [← eyt]; omega⟩) h.2⟩) ls (lv_sub hl [0, 1, 2, 3, 4] rfl)
          · have tc_4 := t_neq c_4
            refine lv_aload_n hx hb dX12_isAble_32 rfl (lv_at hl 2 rfl) ?_
            refine va_get (D := D) (ci := 11) (v := .ref a_awayMonk) (C := RX12) (T := TX12) (N := 54) hx hb hts in_e_mAble_X12 hown hK.1 hP 0 rfl rfl 13 (by decide) lk2 (fun _ h9 => h9) rfl dX12_isAble_33 ?_
            refine lv_iload hx hb dX12_isAble_36 (lv_at hl 0 rfl) ?_
            refine va_iald hx hb hK.1 hP 2 0 rfl rfl (t_in (by omega) (by omega)) dX12_isAble_38 ?_
            refine lv_topi (fun ya eya => ?_)
            refine lv_iload_n hx hb dX12_isAble_39 rfl (lv_at hl 3 rfl) ?_
            refine lv_icmp_ne (tgt := 64) hx hb dX12_isAble_40 (by decide) (fun c_7 => ?_) (fun c_7 => ?_)
            · have tc_7 := t_neq c_7
              refine lv_iconst (v := 1) hx hb dX12_isAble_64 (by decide) ?_
              refine lv_goto (tgt := 69) hx hb dX12_isAble_65 (by decide) ?_
              refine lv_istore_n (lv' := [(3, .int 1), (4, .int j), (0, .ref h), (1, .int i), (2, .int d)]) hx hb dX12_isAble_69 rfl hl (by decide) rfl (fun ls hl => ?_)
              obtain ⟨x_8, ex_8⟩ : ∃ y : Int32, y = j + 1 := ⟨_, rfl⟩
              refine lv_iinc (v := x_8) (lv' := [(4, .int x_8), (3, .int 1), (0, .ref h), (1, .int i), (2, .int d)]) hx hb dX12_isAble_70 hl (k := 1) rfl (by rw [ex_8]; rfl) (by decide) rfl (fun ls hl => ?_)
              first | have tx_8 := t_add ex_8 (by omega) (by omega) | skip
              refine lv_goto (tgt := 19) hx hb dX12_isAble_73 (by decide) ?_
              exact ih19 1 x_8 (by omega) (by omega) (by omega) (by first | exact Or.inl ⟨by omega, (if1 ha (by omega)).1, (if1 ha (by omega)).2.up (i := j) (by omega) (fun h => by have h1 := h.1; have h2 := h.2; rw [← eya] at h1; first | (have := t_eq h1; omega) | (rw [← eyf, ← eyt] at h2; omega)) (by omega)⟩ | exact Or.inr ⟨by omega, fun h => if0 ha (by omega) ⟨h.1, h.2.to (by omega)⟩⟩ | exact Or.inr ⟨by omega, fun h => Al.no (i := j) (by omega) (by omega) (fun q => q ⟨by rw [← eya]; exact i32_ext (by omega), by rw [← eyf]; omega, by rw [← eyt]; omega⟩) h.2⟩) ls (lv_sub hl [0, 1, 2, 3, 4] rfl)
            · have tc_7 := t_eq c_7
              refine lv_iload_n hx hb dX12_isAble_43 rfl (lv_at hl 4 rfl) ?_
              refine lv_aload_n hx hb dX12_isAble_44 rfl (lv_at hl 2 rfl) ?_
              refine va_get (D := D) (ci := 11) (v := .ref a_awayFrom) (C := RX12) (T := TX12) (N := 54) hx hb hts in_e_mAble_X12 hown hK.1 hP 0 rfl rfl 14 (by decide) lk3 (fun _ h9 => h9) rfl dX12_isAble_45 ?_
              refine lv_iload hx hb dX12_isAble_48 (lv_at hl 0 rfl) ?_
              refine va_iald hx hb hK.1 hP 3 0 rfl rfl (t_in (by omega) (by omega)) dX12_isAble_50 ?_
              refine lv_topi (fun yf eyf => ?_)
              refine lv_aload_n hx hb dX12_isAble_51 rfl (lv_at hl 2 rfl) ?_
              refine va_get (D := D) (ci := 11) (v := .ref a_awayTo) (C := RX12) (T := TX12) (N := 54) hx hb hts in_e_mAble_X12 hown hK.1 hP 0 rfl rfl 15 (by decide) lk4 (fun _ h9 => h9) rfl dX12_isAble_52 ?_
              refine lv_iload hx hb dX12_isAble_55 (lv_at hl 0 rfl) ?_
              refine va_iald hx hb hK.1 hP 4 0 rfl rfl (t_in (by omega) (by omega)) dX12_isAble_57 ?_
              refine lv_topi (fun yt eyt => ?_)
              have hPc := hP.sub (ws' := []) [] rfl
              refine roS (As := [.int d, .int yf, .int yt]) (rest := []) S (m_isIn  ) (va_cwS 3 hts gX12_isAble_X12_isIn rfl rfl rfl hd_X12_isIn ⟨Nat.le_of_ble_eq_true rfl, Nat.le_of_ble_eq_true rfl⟩) hK hPc rfl hl.1 rfl (Nat.le_of_ble_eq_true rfl) dX12_isAble_58 ⟨Nat.le_of_ble_eq_true rfl, Nat.le_of_ble_eq_true rfl⟩ (fun r_11 hw_11 => ?_)
              have hw_11 : (r_11.toInt = 1 ∧ yf.toInt ≤ d.toInt ∧ d.toInt ≤ yt.toInt) ∨ (r_11.toInt = 0 ∧ (d.toInt < yf.toInt ∨ yt.toInt < d.toInt)) := hw_11
              refine lv_if_ne (tgt := 68) hx hb dX12_isAble_61 (by decide) (fun c_12 => ?_) (fun c_12 => ?_)
              · have tc_12 := t_neq c_12
                refine lv_iconst (v := 0) hx hb dX12_isAble_68 (by decide) ?_
                refine lv_istore_n (lv' := [(3, .int 0), (4, .int j), (0, .ref h), (1, .int i), (2, .int d)]) hx hb dX12_isAble_69 rfl hl (by decide) rfl (fun ls hl => ?_)
                obtain ⟨x_13, ex_13⟩ : ∃ y : Int32, y = j + 1 := ⟨_, rfl⟩
                refine lv_iinc (v := x_13) (lv' := [(4, .int x_13), (3, .int 0), (0, .ref h), (1, .int i), (2, .int d)]) hx hb dX12_isAble_70 hl (k := 1) rfl (by rw [ex_13]; rfl) (by decide) rfl (fun ls hl => ?_)
                first | have tx_13 := t_add ex_13 (by omega) (by omega) | skip
                refine lv_goto (tgt := 19) hx hb dX12_isAble_73 (by decide) ?_
                exact ih19 0 x_13 (by omega) (by omega) (by omega) (by first | exact Or.inl ⟨by omega, (if1 ha (by omega)).1, (if1 ha (by omega)).2.up (i := j) (by omega) (fun h => by have h1 := h.1; have h2 := h.2; rw [← eya] at h1; first | (have := t_eq h1; omega) | (rw [← eyf, ← eyt] at h2; omega)) (by omega)⟩ | exact Or.inr ⟨by omega, fun h => if0 ha (by omega) ⟨h.1, h.2.to (by omega)⟩⟩ | exact Or.inr ⟨by omega, fun h => Al.no (i := j) (by omega) (by omega) (fun q => q ⟨by rw [← eya]; exact i32_ext (by omega), by rw [← eyf]; omega, by rw [← eyt]; omega⟩) h.2⟩) ls (lv_sub hl [0, 1, 2, 3, 4] rfl)
              · have tc_12 := t_eq c_12
                refine lv_iconst (v := 1) hx hb dX12_isAble_64 (by decide) ?_
                refine lv_goto (tgt := 69) hx hb dX12_isAble_65 (by decide) ?_
                refine lv_istore_n (lv' := [(3, .int 1), (4, .int j), (0, .ref h), (1, .int i), (2, .int d)]) hx hb dX12_isAble_69 rfl hl (by decide) rfl (fun ls hl => ?_)
                obtain ⟨x_14, ex_14⟩ : ∃ y : Int32, y = j + 1 := ⟨_, rfl⟩
                refine lv_iinc (v := x_14) (lv' := [(4, .int x_14), (3, .int 1), (0, .ref h), (1, .int i), (2, .int d)]) hx hb dX12_isAble_70 hl (k := 1) rfl (by rw [ex_14]; rfl) (by decide) rfl (fun ls hl => ?_)
                first | have tx_14 := t_add ex_14 (by omega) (by omega) | skip
                refine lv_goto (tgt := 19) hx hb dX12_isAble_73 (by decide) ?_
                exact ih19 1 x_14 (by omega) (by omega) (by omega) (by first | exact Or.inl ⟨by omega, (if1 ha (by omega)).1, (if1 ha (by omega)).2.up (i := j) (by omega) (fun h => by have h1 := h.1; have h2 := h.2; rw [← eya] at h1; first | (have := t_eq h1; omega) | (rw [← eyf, ← eyt] at h2; omega)) (by omega)⟩ | exact Or.inr ⟨by omega, fun h => if0 ha (by omega) ⟨h.1, h.2.to (by omega)⟩⟩ | exact Or.inr ⟨by omega, fun h => Al.no (i := j) (by omega) (by omega) (fun q => q ⟨by rw [← eya]; exact i32_ext (by omega), by rw [← eyf]; omega, by rw [← eyt]; omega⟩) h.2⟩) ls (lv_sub hl [0, 1, 2, 3, 4] rfl)
    exact loop19 ((v_aways.toInt - (0 : Int32).toInt).toNat + 1) 0 0 (by omega) (by omega) (by omega) (by first | exact Or.inl ⟨by omega, by rw [← eyj]; omega, Al.zero (by omega)⟩ | exact Or.inr ⟨by omega, fun h => by have h1 := h.1; rw [← eyj] at h1; omega⟩) ls (lv_sub hl [0, 1, 2, 3, 4] rfl)
  · have tc_2 := t_nlt c_2
    refine lv_iconst (v := 1) hx hb dX12_isAble_10 (by decide) ?_
    refine lv_goto (tgt := 15) hx hb dX12_isAble_11 (by decide) ?_
    refine lv_istore_n (lv' := [(3, .int 1), (0, .ref h), (1, .int i), (2, .int d)]) hx hb dX12_isAble_15 rfl hl (by decide) rfl (fun ls hl => ?_)
    refine lv_iconst (v := 0) hx hb dX12_isAble_16 (by decide) ?_
    refine lv_istore (lv' := [(4, .int 0), (3, .int 1), (0, .ref h), (1, .int i), (2, .int d)]) hx hb dX12_isAble_17 hl (by decide) rfl (fun ls hl => ?_)
    have loop19 : ∀ (fuel : Nat) (a : Int32) (j : Int32), v_aways.toInt - j.toInt < (fuel : Int) → (0 ≤ j.toInt) → (j.toInt ≤ v_aways.toInt) → ((a.toInt = 1 ∧ AbleP f_joined f_awayMonk f_awayFrom f_awayTo j.toInt i d) ∨ (a.toInt = 0 ∧ ¬ AbleP f_joined f_awayMonk f_awayFrom f_awayTo j.toInt i d)) → ∀ ls : Array Slot, lv_has ls 5 [(4, .int j), (3, .int a), (0, .ref h), (1, .int i), (2, .int d)] → W p l e ({ frames := 1, cells := 0, slots := 0, locals := 22 } : Room) s m args below meth c s.heap [] 0 0 Q (F0 m 19 ls []) := by
      intro fuel
      induction fuel with
      | zero =>
        intro a j hmu hj0 hj1 ha ls hl
        exfalso; omega
      | succ fuel ih19 =>
        intro a j hmu hj0 hj1 ha ls hl
        have ha01 := if01 ha
        refine lv_iload hx hb dX12_isAble_19 (lv_at hl 0 rfl) ?_
        refine lv_aload_n hx hb dX12_isAble_21 rfl (lv_at hl 2 rfl) ?_
        refine va_get (D := D) (ci := 11) (v := .int v_aways) (C := RX12) (T := TX12) (N := 54) hx hb hts in_e_mAble_X12 hown hK.1 hP 0 rfl rfl 2 (by decide) lk1 (fun _ h9 => h9) rfl dX12_isAble_22 ?_
        refine lv_icmp_ge (tgt := 76) hx hb dX12_isAble_25 (by decide) (fun c_15 => ?_) (fun c_15 => ?_)
        · have tc_15 := t_le c_15
          refine lv_iload_n hx hb dX12_isAble_76 rfl (lv_at hl 1 rfl) ?_
          exact hret a _ _ (show (a.toInt = 1 ∧ AbleP f_joined f_awayMonk f_awayFrom f_awayTo v_aways.toInt i d) ∨ (a.toInt = 0 ∧ ¬ AbleP f_joined f_awayMonk f_awayFrom f_awayTo v_aways.toInt i d) from by rw [show v_aways.toInt = j.toInt by omega]; exact ha) (zb (by omega)) dX12_isAble_77
        · have tc_15 := t_nle c_15
          refine lv_iload_n hx hb dX12_isAble_28 rfl (lv_at hl 1 rfl) ?_
          refine lv_if_eq (tgt := 68) hx hb dX12_isAble_29 (by decide) (fun c_16 => ?_) (fun c_16 => ?_)
          · have tc_16 := t_eq c_16
            refine lv_iconst (v := 0) hx hb dX12_isAble_68 (by decide) ?_
            refine lv_istore_n (lv' := [(3, .int 0), (4, .int j), (0, .ref h), (1, .int i), (2, .int d)]) hx hb dX12_isAble_69 rfl hl (by decide) rfl (fun ls hl => ?_)
            obtain ⟨x_17, ex_17⟩ : ∃ y : Int32, y = j + 1 := ⟨_, rfl⟩
            refine lv_iinc (v := x_17) (lv' := [(4, .int x_17), (3, .int 0), (0, .ref h), (1, .int i), (2, .int d)]) hx hb dX12_isAble_70 hl (k := 1) rfl (by rw [ex_17]; rfl) (by decide) rfl (fun ls hl => ?_)
            first | have tx_17 := t_add ex_17 (by omega) (by omega) | skip
            refine lv_goto (tgt := 19) hx hb dX12_isAble_73 (by decide) ?_
            exact ih19 0 x_17 (by omega) (by omega) (by omega) (by first | exact Or.inl ⟨by omega, (if1 ha (by omega)).1, (if1 ha (by omega)).2.up (i := j) (by omega) (fun h => by have h1 := h.1; have h2 := h.2; rw [← eya] at h1; first | (have := t_eq h1; omega) | (rw [← eyf, ← eyt] at h2; omega)) (by omega)⟩ | exact Or.inr ⟨by omega, fun h => if0 ha (by omega) ⟨h.1, h.2.to (by omega)⟩⟩ | exact Or.inr ⟨by omega, fun h => Al.no (i := j) (by omega) (by omega) (fun q => q ⟨by rw [← eya]; exact i32_ext (by omega), by rw [← eyf]; omega, by rw [← eyt]; omega⟩) h.2⟩) ls (lv_sub hl [0, 1, 2, 3, 4] rfl)
          · have tc_16 := t_neq c_16
            refine lv_aload_n hx hb dX12_isAble_32 rfl (lv_at hl 2 rfl) ?_
            refine va_get (D := D) (ci := 11) (v := .ref a_awayMonk) (C := RX12) (T := TX12) (N := 54) hx hb hts in_e_mAble_X12 hown hK.1 hP 0 rfl rfl 13 (by decide) lk2 (fun _ h9 => h9) rfl dX12_isAble_33 ?_
            refine lv_iload hx hb dX12_isAble_36 (lv_at hl 0 rfl) ?_
            refine va_iald hx hb hK.1 hP 2 0 rfl rfl (t_in (by omega) (by omega)) dX12_isAble_38 ?_
            refine lv_topi (fun ya eya => ?_)
            refine lv_iload_n hx hb dX12_isAble_39 rfl (lv_at hl 3 rfl) ?_
            refine lv_icmp_ne (tgt := 64) hx hb dX12_isAble_40 (by decide) (fun c_19 => ?_) (fun c_19 => ?_)
            · have tc_19 := t_neq c_19
              refine lv_iconst (v := 1) hx hb dX12_isAble_64 (by decide) ?_
              refine lv_goto (tgt := 69) hx hb dX12_isAble_65 (by decide) ?_
              refine lv_istore_n (lv' := [(3, .int 1), (4, .int j), (0, .ref h), (1, .int i), (2, .int d)]) hx hb dX12_isAble_69 rfl hl (by decide) rfl (fun ls hl => ?_)
              obtain ⟨x_20, ex_20⟩ : ∃ y : Int32, y = j + 1 := ⟨_, rfl⟩
              refine lv_iinc (v := x_20) (lv' := [(4, .int x_20), (3, .int 1), (0, .ref h), (1, .int i), (2, .int d)]) hx hb dX12_isAble_70 hl (k := 1) rfl (by rw [ex_20]; rfl) (by decide) rfl (fun ls hl => ?_)
              first | have tx_20 := t_add ex_20 (by omega) (by omega) | skip
              refine lv_goto (tgt := 19) hx hb dX12_isAble_73 (by decide) ?_
              exact ih19 1 x_20 (by omega) (by omega) (by omega) (by first | exact Or.inl ⟨by omega, (if1 ha (by omega)).1, (if1 ha (by omega)).2.up (i := j) (by omega) (fun h => by have h1 := h.1; have h2 := h.2; rw [← eya] at h1; first | (have := t_eq h1; omega) | (rw [← eyf, ← eyt] at h2; omega)) (by omega)⟩ | exact Or.inr ⟨by omega, fun h => if0 ha (by omega) ⟨h.1, h.2.to (by omega)⟩⟩ | exact Or.inr ⟨by omega, fun h => Al.no (i := j) (by omega) (by omega) (fun q => q ⟨by rw [← eya]; exact i32_ext (by omega), by rw [← eyf]; omega, by rw [← eyt]; omega⟩) h.2⟩) ls (lv_sub hl [0, 1, 2, 3, 4] rfl)
            · have tc_19 := t_eq c_19
              refine lv_iload_n hx hb dX12_isAble_43 rfl (lv_at hl 4 rfl) ?_
              refine lv_aload_n hx hb dX12_isAble_44 rfl (lv_at hl 2 rfl) ?_
              refine va_get (D := D) (ci := 11) (v := .ref a_awayFrom) (C := RX12) (T := TX12) (N := 54) hx hb hts in_e_mAble_X12 hown hK.1 hP 0 rfl rfl 14 (by decide) lk3 (fun _ h9 => h9) rfl dX12_isAble_45 ?_
              refine lv_iload hx hb dX12_isAble_48 (lv_at hl 0 rfl) ?_
              refine va_iald hx hb hK.1 hP 3 0 rfl rfl (t_in (by omega) (by omega)) dX12_isAble_50 ?_
              refine lv_topi (fun yf eyf => ?_)
              refine lv_aload_n hx hb dX12_isAble_51 rfl (lv_at hl 2 rfl) ?_
              refine va_get (D := D) (ci := 11) (v := .ref a_awayTo) (C := RX12) (T := TX12) (N := 54) hx hb hts in_e_mAble_X12 hown hK.1 hP 0 rfl rfl 15 (by decide) lk4 (fun _ h9 => h9) rfl dX12_isAble_52 ?_
              refine lv_iload hx hb dX12_isAble_55 (lv_at hl 0 rfl) ?_
              refine va_iald hx hb hK.1 hP 4 0 rfl rfl (t_in (by omega) (by omega)) dX12_isAble_57 ?_
              refine lv_topi (fun yt eyt => ?_)
              have hPc := hP.sub (ws' := []) [] rfl
              refine roS (As := [.int d, .int yf, .int yt]) (rest := []) S (m_isIn  ) (va_cwS 3 hts gX12_isAble_X12_isIn rfl rfl rfl hd_X12_isIn ⟨Nat.le_of_ble_eq_true rfl, Nat.le_of_ble_eq_true rfl⟩) hK hPc rfl hl.1 rfl (Nat.le_of_ble_eq_true rfl) dX12_isAble_58 ⟨Nat.le_of_ble_eq_true rfl, Nat.le_of_ble_eq_true rfl⟩ (fun r_23 hw_23 => ?_)
              have hw_23 : (r_23.toInt = 1 ∧ yf.toInt ≤ d.toInt ∧ d.toInt ≤ yt.toInt) ∨ (r_23.toInt = 0 ∧ (d.toInt < yf.toInt ∨ yt.toInt < d.toInt)) := hw_23
              refine lv_if_ne (tgt := 68) hx hb dX12_isAble_61 (by decide) (fun c_24 => ?_) (fun c_24 => ?_)
              · have tc_24 := t_neq c_24
                refine lv_iconst (v := 0) hx hb dX12_isAble_68 (by decide) ?_
                refine lv_istore_n (lv' := [(3, .int 0), (4, .int j), (0, .ref h), (1, .int i), (2, .int d)]) hx hb dX12_isAble_69 rfl hl (by decide) rfl (fun ls hl => ?_)
                obtain ⟨x_25, ex_25⟩ : ∃ y : Int32, y = j + 1 := ⟨_, rfl⟩
                refine lv_iinc (v := x_25) (lv' := [(4, .int x_25), (3, .int 0), (0, .ref h), (1, .int i), (2, .int d)]) hx hb dX12_isAble_70 hl (k := 1) rfl (by rw [ex_25]; rfl) (by decide) rfl (fun ls hl => ?_)
                first | have tx_25 := t_add ex_25 (by omega) (by omega) | skip
                refine lv_goto (tgt := 19) hx hb dX12_isAble_73 (by decide) ?_
                exact ih19 0 x_25 (by omega) (by omega) (by omega) (by first | exact Or.inl ⟨by omega, (if1 ha (by omega)).1, (if1 ha (by omega)).2.up (i := j) (by omega) (fun h => by have h1 := h.1; have h2 := h.2; rw [← eya] at h1; first | (have := t_eq h1; omega) | (rw [← eyf, ← eyt] at h2; omega)) (by omega)⟩ | exact Or.inr ⟨by omega, fun h => if0 ha (by omega) ⟨h.1, h.2.to (by omega)⟩⟩ | exact Or.inr ⟨by omega, fun h => Al.no (i := j) (by omega) (by omega) (fun q => q ⟨by rw [← eya]; exact i32_ext (by omega), by rw [← eyf]; omega, by rw [← eyt]; omega⟩) h.2⟩) ls (lv_sub hl [0, 1, 2, 3, 4] rfl)
              · have tc_24 := t_eq c_24
                refine lv_iconst (v := 1) hx hb dX12_isAble_64 (by decide) ?_
                refine lv_goto (tgt := 69) hx hb dX12_isAble_65 (by decide) ?_
                refine lv_istore_n (lv' := [(3, .int 1), (4, .int j), (0, .ref h), (1, .int i), (2, .int d)]) hx hb dX12_isAble_69 rfl hl (by decide) rfl (fun ls hl => ?_)
                obtain ⟨x_26, ex_26⟩ : ∃ y : Int32, y = j + 1 := ⟨_, rfl⟩
                refine lv_iinc (v := x_26) (lv' := [(4, .int x_26), (3, .int 1), (0, .ref h), (1, .int i), (2, .int d)]) hx hb dX12_isAble_70 hl (k := 1) rfl (by rw [ex_26]; rfl) (by decide) rfl (fun ls hl => ?_)
                first | have tx_26 := t_add ex_26 (by omega) (by omega) | skip
                refine lv_goto (tgt := 19) hx hb dX12_isAble_73 (by decide) ?_
                exact ih19 1 x_26 (by omega) (by omega) (by omega) (by first | exact Or.inl ⟨by omega, (if1 ha (by omega)).1, (if1 ha (by omega)).2.up (i := j) (by omega) (fun h => by have h1 := h.1; have h2 := h.2; rw [← eya] at h1; first | (have := t_eq h1; omega) | (rw [← eyf, ← eyt] at h2; omega)) (by omega)⟩ | exact Or.inr ⟨by omega, fun h => if0 ha (by omega) ⟨h.1, h.2.to (by omega)⟩⟩ | exact Or.inr ⟨by omega, fun h => Al.no (i := j) (by omega) (by omega) (fun q => q ⟨by rw [← eya]; exact i32_ext (by omega), by rw [← eyf]; omega, by rw [← eyt]; omega⟩) h.2⟩) ls (lv_sub hl [0, 1, 2, 3, 4] rfl)
    exact loop19 ((v_aways.toInt - (0 : Int32).toInt).toNat + 1) 1 0 (by omega) (by omega) (by omega) (by first | exact Or.inl ⟨by omega, by rw [← eyj]; omega, Al.zero (by omega)⟩ | exact Or.inr ⟨by omega, fun h => by have h1 := h.1; rw [← eyj] at h1; omega⟩) ls (lv_sub hl [0, 1, 2, 3, 4] rfl)

theorem in_e_mHas_X12 : ∀ w ∈ wsX120, w ∈ wsX12_hasDuty := tl_X12_hasDuty_X12
set_option maxHeartbeats 8000000 in
set_option maxRecDepth 100000 in
theorem e_mHas {l : Launch} {D : va_G} {cI cZ cB : ClassId} {h a_isPriest a_bars a_joined a_turns a_awayMonk a_awayFrom a_awayTo a_feastDay a_rank a_isWeekly a_isDouble a_giftDay a_giftFrom a_owed a_said a_spared a_leaveGift a_leaveFrom a_leaveTo a_lateDay a_lateOffice a_lateBy a_guests a_who a_used a_lacks a_candles a_masses a_owing a_heldOn a_waits a_tape a_text a_statements a_taken a_sort a_first a_second : Nat} {v_today v_monks v_aways v_feasts v_gifts v_leaves v_lates v_store v_allCandles v_taped v_size v_at v_fault v_rules v_wordEnd v_number : Int32} {f_who : Nat → Int32} {i d : Int32} (hd0 : 0 ≤ d.toInt) (hd1 : d.toInt ≤ 1094) : Met l yX12_hasDuty wsX12_hasDuty ({ frames := 0, cells := 0, slots := 0, locals := 0 }) (RO D cI cZ cB [.ref h, .int i, .int d] [(h, .inr (11, [.int v_today, .int v_monks, .int v_aways, .int v_feasts, .int v_gifts, .int v_leaves, .int v_lates, .int v_store, .int v_allCandles, .ref a_isPriest, .ref a_bars, .ref a_joined, .ref a_turns, .ref a_awayMonk, .ref a_awayFrom, .ref a_awayTo, .ref a_feastDay, .ref a_rank, .ref a_isWeekly, .ref a_isDouble, .ref a_giftDay, .ref a_giftFrom, .ref a_owed, .ref a_said, .ref a_spared, .ref a_leaveGift, .ref a_leaveFrom, .ref a_leaveTo, .ref a_lateDay, .ref a_lateOffice, .ref a_lateBy, .ref a_guests, .ref a_who, .ref a_used, .ref a_lacks, .ref a_candles, .ref a_masses, .ref a_owing, .ref a_heldOn, .ref a_waits, .ref a_tape, .ref a_text, .int v_taped, .int v_size, .int v_at, .int v_fault, .int v_rules, .ref a_statements, .ref a_taken, .ref a_sort, .ref a_first, .ref a_second, .int v_wordEnd, .int v_number])), (a_who, .inl (cI, 4380, .inl f_who))]) (vp_Si (fun r : Int32 => (r.toInt = 0 ∧ FreeP f_who d i) ∨ (r.toInt = 1 ∧ ¬ FreeP f_who d i))) 0 0 (fun _ => False) := by
  refine ro_ret (cc := cX12_hasDuty) (maxL := 5) (ty := .boolean) (own := RX12) (by decide) rfl rfl (Nat.le_of_ble_eq_true rfl) ?_
  intro p e s m args below meth c Q S hret hP hK ls hl
  obtain ⟨hx, hb, hml, hown, hts⟩ := id S
  have hl : lv_has ls 5 [(0, .ref h), (1, .int i), (2, .int d)] := hl
  have kk0 : (0 : Int32).toInt = 0 := by decide
  have kk1 : (1 : Int32).toInt = 1 := by decide
  have kk4 : (4 : Int32).toInt = 4 := by decide
  have lk0 := hts (.fieldLink RX12 80 "AbbeyHoursModel" "who" "[I") (List.mem_cons_of_mem _ (List.mem_append_left _ (List.mem_of_getElem? (i := 0) rfl)))
  refine lv_iconst (v := 0) hx hb dX12_hasDuty_0 (by decide) ?_
  refine lv_istore_n (lv' := [(3, .int 0), (0, .ref h), (1, .int i), (2, .int d)]) hx hb dX12_hasDuty_1 rfl hl (by decide) rfl (fun ls hl => ?_)
  refine lv_iconst (v := 0) hx hb dX12_hasDuty_2 (by decide) ?_
  refine lv_istore (lv' := [(4, .int 0), (3, .int 0), (0, .ref h), (1, .int i), (2, .int d)]) hx hb dX12_hasDuty_3 hl (by decide) rfl (fun ls hl => ?_)
  have loop5 : ∀ (fuel : Nat) (a : Int32) (j : Int32), 4 - j.toInt < (fuel : Int) → (0 ≤ j.toInt) → (j.toInt ≤ 4) → ((a.toInt = 0 ∧ Al (fun q => ¬ f_who (4 * d.toNatClampNeg + q) = i) j.toInt) ∨ (a.toInt = 1 ∧ ¬ Al (fun q => ¬ f_who (4 * d.toNatClampNeg + q) = i) j.toInt)) → ∀ ls : Array Slot, lv_has ls 5 [(4, .int j), (3, .int a), (0, .ref h), (1, .int i), (2, .int d)] → W p l e ({ frames := 0, cells := 0, slots := 0, locals := 0 } : Room) s m args below meth c s.heap [] 0 0 Q (F0 m 5 ls []) := by
    intro fuel
    induction fuel with
    | zero =>
      intro a j hmu hj0 hj1 ha ls hl
      exfalso; omega
    | succ fuel ih5 =>
      intro a j hmu hj0 hj1 ha ls hl
      have ha01 := el01 ha
      refine lv_iload hx hb dX12_hasDuty_5 (lv_at hl 0 rfl) ?_
      refine lv_iconst (v := 4) hx hb dX12_hasDuty_7 (by decide) ?_
      refine lv_icmp_ge (tgt := 42) hx hb dX12_hasDuty_8 (by decide) (fun c_1 => ?_) (fun c_1 => ?_)
      · have tc_1 := t_le c_1
        refine lv_iload_n hx hb dX12_hasDuty_42 rfl (lv_at hl 1 rfl) ?_
        exact hret a _ _ (show (a.toInt = 0 ∧ FreeP f_who d i) ∨ (a.toInt = 1 ∧ ¬ FreeP f_who d i) from by have e : j.toInt = 4 := by { omega }; rw [e] at ha; exact ha) (zb (by omega)) dX12_hasDuty_43
      · have tc_1 := t_nle c_1
        refine lv_iload_n hx hb dX12_hasDuty_11 rfl (lv_at hl 1 rfl) ?_
        refine lv_if_ne (tgt := 30) hx hb dX12_hasDuty_12 (by decide) (fun c_2 => ?_) (fun c_2 => ?_)
        · have tc_2 := t_neq c_2
          refine lv_iconst (v := 1) hx hb dX12_hasDuty_30 (by decide) ?_
          refine lv_goto (tgt := 35) hx hb dX12_hasDuty_31 (by decide) ?_
          refine lv_istore_n (lv' := [(3, .int 1), (4, .int j), (0, .ref h), (1, .int i), (2, .int d)]) hx hb dX12_hasDuty_35 rfl hl (by decide) rfl (fun ls hl => ?_)
          obtain ⟨x_3, ex_3⟩ : ∃ y : Int32, y = j + 1 := ⟨_, rfl⟩
          refine lv_iinc (v := x_3) (lv' := [(4, .int x_3), (3, .int 1), (0, .ref h), (1, .int i), (2, .int d)]) hx hb dX12_hasDuty_36 hl (k := 1) rfl (by rw [ex_3]; rfl) (by decide) rfl (fun ls hl => ?_)
          first | have tx_3 := t_add ex_3 (by omega) (by omega) | skip
          refine lv_goto (tgt := 5) hx hb dX12_hasDuty_39 (by decide) ?_
          exact ih5 1 x_3 (by omega) (by omega) (by omega) (by first | exact Or.inl ⟨by omega, (el0 ha (by omega)).up (i := j) (by omega) (fun h => cy (eyw.trans h)) (by omega)⟩ | exact Or.inr ⟨by omega, fun h => el1 ha (by omega) (h.to (by omega))⟩ | exact Or.inr ⟨by omega, Al.no (i := j) (by omega) (by omega) (fun h => h (eyw.symm.trans cy))⟩) ls (lv_sub hl [0, 1, 2, 3, 4] rfl)
        · have tc_2 := t_eq c_2
          refine lv_aload_n hx hb dX12_hasDuty_15 rfl (lv_at hl 2 rfl) ?_
          refine va_get (D := D) (ci := 11) (v := .ref a_who) (C := RX12) (T := TX12) (N := 54) hx hb hts in_e_mHas_X12 hown hK.1 hP 0 rfl rfl 32 (by decide) lk0 (fun _ h9 => h9) rfl dX12_hasDuty_16 ?_
          refine lv_iconst (v := 4) hx hb dX12_hasDuty_19 (by decide) ?_
          refine lv_iload_n hx hb dX12_hasDuty_20 rfl (lv_at hl 4 rfl) ?_
          refine lv_imul hx hb dX12_hasDuty_21 ?_
          refine lv_topi (fun x_4 ex_4 => ?_)
          first | have tx_4 := t_mulL kk4 ex_4 (by omega) (by omega) | skip
          refine lv_iload hx hb dX12_hasDuty_22 (lv_at hl 0 rfl) ?_
          refine lv_iadd hx hb dX12_hasDuty_24 ?_
          refine lv_topi (fun ix eix => ?_)
          first | have tix := t_add eix (by omega) (by omega) | skip
          refine va_iald hx hb hK.1 hP 1 0 rfl rfl (t_in (by omega) (by omega)) dX12_hasDuty_25 ?_
          refine lv_topi (fun yw eyw => ?_)
          have eyw : yw = f_who (4 * d.toNatClampNeg + j.toNatClampNeg) := by rw [eyw, ix4 (i := d) (k := j) (by omega) (by omega) (by omega)]
          refine lv_iload_n hx hb dX12_hasDuty_26 rfl (lv_at hl 3 rfl) ?_
          refine lv_icmp_ne (tgt := 34) hx hb dX12_hasDuty_27 (by decide) (fun cy => ?_) (fun cy => ?_)
          · have tcy := t_neq cy
            refine lv_iconst (v := 0) hx hb dX12_hasDuty_34 (by decide) ?_
            refine lv_istore_n (lv' := [(3, .int 0), (4, .int j), (0, .ref h), (1, .int i), (2, .int d)]) hx hb dX12_hasDuty_35 rfl hl (by decide) rfl (fun ls hl => ?_)
            obtain ⟨x_8, ex_8⟩ : ∃ y : Int32, y = j + 1 := ⟨_, rfl⟩
            refine lv_iinc (v := x_8) (lv' := [(4, .int x_8), (3, .int 0), (0, .ref h), (1, .int i), (2, .int d)]) hx hb dX12_hasDuty_36 hl (k := 1) rfl (by rw [ex_8]; rfl) (by decide) rfl (fun ls hl => ?_)
            first | have tx_8 := t_add ex_8 (by omega) (by omega) | skip
            refine lv_goto (tgt := 5) hx hb dX12_hasDuty_39 (by decide) ?_
            exact ih5 0 x_8 (by omega) (by omega) (by omega) (by first | exact Or.inl ⟨by omega, (el0 ha (by omega)).up (i := j) (by omega) (fun h => cy (eyw.trans h)) (by omega)⟩ | exact Or.inr ⟨by omega, fun h => el1 ha (by omega) (h.to (by omega))⟩ | exact Or.inr ⟨by omega, Al.no (i := j) (by omega) (by omega) (fun h => h (eyw.symm.trans cy))⟩) ls (lv_sub hl [0, 1, 2, 3, 4] rfl)
          · have tcy := t_eq cy
            refine lv_iconst (v := 1) hx hb dX12_hasDuty_30 (by decide) ?_
            refine lv_goto (tgt := 35) hx hb dX12_hasDuty_31 (by decide) ?_
            refine lv_istore_n (lv' := [(3, .int 1), (4, .int j), (0, .ref h), (1, .int i), (2, .int d)]) hx hb dX12_hasDuty_35 rfl hl (by decide) rfl (fun ls hl => ?_)
            obtain ⟨x_9, ex_9⟩ : ∃ y : Int32, y = j + 1 := ⟨_, rfl⟩
            refine lv_iinc (v := x_9) (lv' := [(4, .int x_9), (3, .int 1), (0, .ref h), (1, .int i), (2, .int d)]) hx hb dX12_hasDuty_36 hl (k := 1) rfl (by rw [ex_9]; rfl) (by decide) rfl (fun ls hl => ?_)
            first | have tx_9 := t_add ex_9 (by omega) (by omega) | skip
            refine lv_goto (tgt := 5) hx hb dX12_hasDuty_39 (by decide) ?_
            exact ih5 1 x_9 (by omega) (by omega) (by omega) (by first | exact Or.inl ⟨by omega, (el0 ha (by omega)).up (i := j) (by omega) (fun h => cy (eyw.trans h)) (by omega)⟩ | exact Or.inr ⟨by omega, fun h => el1 ha (by omega) (h.to (by omega))⟩ | exact Or.inr ⟨by omega, Al.no (i := j) (by omega) (by omega) (fun h => h (eyw.symm.trans cy))⟩) ls (lv_sub hl [0, 1, 2, 3, 4] rfl)
  exact loop5 ((4 - (0 : Int32).toInt).toNat + 1) 0 0 (by omega) (by omega) (by omega) (Or.inl ⟨by omega, Al.zero (by omega)⟩) ls (lv_sub hl [0, 1, 2, 3, 4] rfl)

theorem in_e_next_X12 : ∀ w ∈ wsX120, w ∈ wsX12_nextFor := tl_X12_nextFor_X12
set_option maxHeartbeats 8000000 in
set_option maxRecDepth 100000 in
theorem e_next {l : Launch} {D : va_G} {cI cZ cB : ClassId} {h a_isPriest a_bars a_joined a_turns a_awayMonk a_awayFrom a_awayTo a_feastDay a_rank a_isWeekly a_isDouble a_giftDay a_giftFrom a_owed a_said a_spared a_leaveGift a_leaveFrom a_leaveTo a_lateDay a_lateOffice a_lateBy a_guests a_who a_used a_lacks a_candles a_masses a_owing a_heldOn a_waits a_tape a_text a_statements a_taken a_sort a_first a_second : Nat} {v_today v_monks v_aways v_feasts v_gifts v_leaves v_lates v_store v_allCandles v_taped v_size v_at v_fault v_rules v_wordEnd v_number : Int32} {f_bars f_joined f_turns f_awayMonk f_awayFrom f_awayTo f_who : Nat → Int32} {k d b : Int32} (h0_monks : 0 ≤ v_monks.toInt) (h1_monks : v_monks.toInt ≤ 24) (h0_aways : 0 ≤ v_aways.toInt) (h1_aways : v_aways.toInt ≤ 60) (hd0 : 0 ≤ d.toInt) (hd1 : d.toInt ≤ 1094) (hk0 : 0 ≤ k.toInt) (hk1 : k.toInt < 4) : Met l yX12_nextFor wsX12_nextFor ({ frames := 2, cells := 0, slots := 0, locals := 46 }) (RO D cI cZ cB [.ref h, .int k, .int d, .int b] [(h, .inr (11, [.int v_today, .int v_monks, .int v_aways, .int v_feasts, .int v_gifts, .int v_leaves, .int v_lates, .int v_store, .int v_allCandles, .ref a_isPriest, .ref a_bars, .ref a_joined, .ref a_turns, .ref a_awayMonk, .ref a_awayFrom, .ref a_awayTo, .ref a_feastDay, .ref a_rank, .ref a_isWeekly, .ref a_isDouble, .ref a_giftDay, .ref a_giftFrom, .ref a_owed, .ref a_said, .ref a_spared, .ref a_leaveGift, .ref a_leaveFrom, .ref a_leaveTo, .ref a_lateDay, .ref a_lateOffice, .ref a_lateBy, .ref a_guests, .ref a_who, .ref a_used, .ref a_lacks, .ref a_candles, .ref a_masses, .ref a_owing, .ref a_heldOn, .ref a_waits, .ref a_tape, .ref a_text, .int v_taped, .int v_size, .int v_at, .int v_fault, .int v_rules, .ref a_statements, .ref a_taken, .ref a_sort, .ref a_first, .ref a_second, .int v_wordEnd, .int v_number])), (a_bars, .inl (cI, 24, .inl f_bars)), (a_joined, .inl (cI, 24, .inl f_joined)), (a_turns, .inl (cI, 96, .inl f_turns)), (a_awayMonk, .inl (cI, 60, .inl f_awayMonk)), (a_awayFrom, .inl (cI, 60, .inl f_awayFrom)), (a_awayTo, .inl (cI, 60, .inl f_awayTo)), (a_who, .inl (cI, 4380, .inl f_who))]) (vp_Si (fun r : Int32 => IsPick (okB f_bars f_joined f_awayMonk f_awayFrom f_awayTo v_aways.toInt d b f_who k) (keyD f_turns k) v_monks.toInt r)) 0 0 (fun _ => False) := by
  refine ro_ret (cc := cX12_nextFor) (maxL := 6) (ty := .int) (own := RX12) (by decide) rfl rfl (Nat.le_of_ble_eq_true rfl) ?_
  intro p e s m args below meth c Q S hret hP hK ls hl
  obtain ⟨hx, hb, hml, hown, hts⟩ := id S
  have hl : lv_has ls 6 [(0, .ref h), (1, .int k), (2, .int d), (3, .int b)] := hl
  have kkm1 : (-1 : Int32).toInt = -1 := by decide
  have kk0 : (0 : Int32).toInt = 0 := by decide
  have kk1 : (1 : Int32).toInt = 1 := by decide
  have kk4 : (4 : Int32).toInt = 4 := by decide
  have lk0 := hts (.fieldLink RX12 134 "AbbeyHoursModel" "monks" "I") (List.mem_cons_of_mem _ (List.mem_append_left _ (List.mem_of_getElem? (i := 0) rfl)))
  have lk1 := hts (.fieldLink RX12 13 "AbbeyHoursModel" "bars" "[I") (List.mem_cons_of_mem _ (List.mem_append_left _ (List.mem_of_getElem? (i := 1) rfl)))
  have lk2 := hts (.fieldLink RX12 20 "AbbeyHoursModel" "turns" "[I") (List.mem_cons_of_mem _ (List.mem_append_left _ (List.mem_of_getElem? (i := 2) rfl)))
  refine lv_iconst (v := (-1)) hx hb dX12_nextFor_0 (by decide) ?_
  refine lv_istore (lv' := [(4, .int (-1)), (0, .ref h), (1, .int k), (2, .int d), (3, .int b)]) hx hb dX12_nextFor_1 hl (by decide) rfl (fun ls hl => ?_)
  refine lv_iconst (v := 0) hx hb dX12_nextFor_3 (by decide) ?_
  refine lv_istore (lv' := [(5, .int 0), (4, .int (-1)), (0, .ref h), (1, .int k), (2, .int d), (3, .int b)]) hx hb dX12_nextFor_4 hl (by decide) rfl (fun ls hl => ?_)
  have loop6 : ∀ (fuel : Nat) (a : Int32) (j : Int32), v_monks.toInt - j.toInt < (fuel : Int) → (0 ≤ j.toInt) → (j.toInt ≤ v_monks.toInt) → (IsPick (okB f_bars f_joined f_awayMonk f_awayFrom f_awayTo v_aways.toInt d b f_who k) (keyD f_turns k) j.toInt a) → ∀ ls : Array Slot, lv_has ls 6 [(5, .int j), (4, .int a), (0, .ref h), (1, .int k), (2, .int d), (3, .int b)] → W p l e ({ frames := 2, cells := 0, slots := 0, locals := 46 } : Room) s m args below meth c s.heap [] 0 0 Q (F0 m 6 ls []) := by
    intro fuel
    induction fuel with
    | zero =>
      intro a j hmu hj0 hj1 hpk ls hl
      exfalso; omega
    | succ fuel ih6 =>
      intro a j hmu hj0 hj1 hpk ls hl
      have ha := hpk.rg
      refine lv_iload hx hb dX12_nextFor_6 (lv_at hl 0 rfl) ?_
      refine lv_aload_n hx hb dX12_nextFor_8 rfl (lv_at hl 2 rfl) ?_
      refine va_get (D := D) (ci := 11) (v := .int v_monks) (C := RX12) (T := TX12) (N := 54) hx hb hts in_e_next_X12 hown hK.1 hP 0 rfl rfl 1 (by decide) lk0 (fun _ h9 => h9) rfl dX12_nextFor_9 ?_
      refine lv_icmp_ge (tgt := 100) hx hb dX12_nextFor_12 (by decide) (fun c_1 => ?_) (fun c_1 => ?_)
      · have tc_1 := t_le c_1
        refine lv_iload hx hb dX12_nextFor_100 (lv_at hl 1 rfl) ?_
        exact hret a _ _ (show IsPick (okB f_bars f_joined f_awayMonk f_awayFrom f_awayTo v_aways.toInt d b f_who k) (keyD f_turns k) v_monks.toInt a from by rw [show v_monks.toInt = j.toInt by omega]; exact hpk) rfl dX12_nextFor_102
      · have tc_1 := t_nle c_1
        refine lv_iload hx hb dX12_nextFor_15 (lv_at hl 0 rfl) ?_
        refine lv_iload_n hx hb dX12_nextFor_17 rfl (lv_at hl 5 rfl) ?_
        refine lv_icmp_eq (tgt := 94) hx hb dX12_nextFor_18 (by decide) (fun cb => ?_) (fun cb => ?_)
        · have tcb := t_eq cb
          obtain ⟨x_3, ex_3⟩ : ∃ y : Int32, y = j + 1 := ⟨_, rfl⟩
          refine lv_iinc (v := x_3) (lv' := [(5, .int x_3), (4, .int a), (0, .ref h), (1, .int k), (2, .int d), (3, .int b)]) hx hb dX12_nextFor_94 hl (k := 0) rfl (by rw [ex_3]; rfl) (by decide) rfl (fun ls hl => ?_)
          first | have tx_3 := t_add ex_3 (by omega) (by omega) | skip
          refine lv_goto (tgt := 6) hx hb dX12_nextFor_97 (by decide) ?_
          exact ih6 a x_3 (by omega) (by omega) (by omega) (by first | exact hpk.take (by omega) (by omega) ((okB_ix (by omega)).mpr ⟨cb, fun h => cc (hbr.mp h), el0 hw_hd (by omega), if1 hw_ab (by omega)⟩) (by first | exact Or.inl (by omega) | exact Or.inr (by show (f_turns _).toInt < (f_turns _).toInt; rw [← ey1, ← ey2]; omega)) | exact hpk.skip (by omega) (by omega) (fun h => ((okB_ix (by omega)).mp h).1 cb) | exact hpk.skip (by omega) (by omega) (fun h => ((okB_ix (by omega)).mp h).2.1 (hbr.mpr cc)) | exact hpk.skip (by omega) (by omega) (fun h => if0 hw_ab (by omega) ((okB_ix (by omega)).mp h).2.2.2) | exact hpk.skip (by omega) (by omega) (fun h => el1 hw_hd (by omega) ((okB_ix (by omega)).mp h).2.2.1) | exact hpk.keep (by omega) (by omega) (by omega) (by show (f_turns _).toInt ≤ (f_turns _).toInt; rw [← ey1, ← ey2]; omega)) ls (lv_sub hl [0, 1, 2, 3, 4, 5] rfl)
        · have tcb := t_neq cb
          refine lv_aload_n hx hb dX12_nextFor_21 rfl (lv_at hl 2 rfl) ?_
          refine va_get (D := D) (ci := 11) (v := .ref a_bars) (C := RX12) (T := TX12) (N := 54) hx hb hts in_e_next_X12 hown hK.1 hP 0 rfl rfl 10 (by decide) lk1 (fun _ h9 => h9) rfl dX12_nextFor_22 ?_
          refine lv_iload hx hb dX12_nextFor_25 (lv_at hl 0 rfl) ?_
          refine va_iald hx hb hK.1 hP 1 0 rfl rfl (t_in (by omega) (by omega)) dX12_nextFor_27 ?_
          refine lv_topi (fun yb eyb => ?_)
          refine lv_iload_n hx hb dX12_nextFor_28 rfl (lv_at hl 3 rfl) ?_
          refine lv_ishr hx hb dX12_nextFor_29 ?_
          refine lv_topi (fun ys eys => ?_)
          refine lv_iconst (v := 1) hx hb dX12_nextFor_30 (by decide) ?_
          refine lv_iand hx hb dX12_nextFor_31 ?_
          refine lv_topi (fun yz eyz => ?_)
          have hbr : BarP f_bars k j ↔ yz = 1 := by unfold BarP; rw [← eyb, ← eys, ← eyz]
          refine lv_iconst (v := 1) hx hb dX12_nextFor_32 (by decide) ?_
          refine lv_icmp_eq (tgt := 94) hx hb dX12_nextFor_33 (by decide) (fun cc => ?_) (fun cc => ?_)
          · have tcc := t_eq cc
            obtain ⟨x_8, ex_8⟩ : ∃ y : Int32, y = j + 1 := ⟨_, rfl⟩
            refine lv_iinc (v := x_8) (lv' := [(5, .int x_8), (4, .int a), (0, .ref h), (1, .int k), (2, .int d), (3, .int b)]) hx hb dX12_nextFor_94 hl (k := 0) rfl (by rw [ex_8]; rfl) (by decide) rfl (fun ls hl => ?_)
            first | have tx_8 := t_add ex_8 (by omega) (by omega) | skip
            refine lv_goto (tgt := 6) hx hb dX12_nextFor_97 (by decide) ?_
            exact ih6 a x_8 (by omega) (by omega) (by omega) (by first | exact hpk.take (by omega) (by omega) ((okB_ix (by omega)).mpr ⟨cb, fun h => cc (hbr.mp h), el0 hw_hd (by omega), if1 hw_ab (by omega)⟩) (by first | exact Or.inl (by omega) | exact Or.inr (by show (f_turns _).toInt < (f_turns _).toInt; rw [← ey1, ← ey2]; omega)) | exact hpk.skip (by omega) (by omega) (fun h => ((okB_ix (by omega)).mp h).1 cb) | exact hpk.skip (by omega) (by omega) (fun h => ((okB_ix (by omega)).mp h).2.1 (hbr.mpr cc)) | exact hpk.skip (by omega) (by omega) (fun h => if0 hw_ab (by omega) ((okB_ix (by omega)).mp h).2.2.2) | exact hpk.skip (by omega) (by omega) (fun h => el1 hw_hd (by omega) ((okB_ix (by omega)).mp h).2.2.1) | exact hpk.keep (by omega) (by omega) (by omega) (by show (f_turns _).toInt ≤ (f_turns _).toInt; rw [← ey1, ← ey2]; omega)) ls (lv_sub hl [0, 1, 2, 3, 4, 5] rfl)
          · have tcc := t_neq cc
            refine lv_aload_n hx hb dX12_nextFor_36 rfl (lv_at hl 2 rfl) ?_
            refine lv_iload hx hb dX12_nextFor_37 (lv_at hl 0 rfl) ?_
            refine lv_iload_n hx hb dX12_nextFor_39 rfl (lv_at hl 4 rfl) ?_
            have hPc := hP.sub (ws' := [(h, .inr (11, [.int v_today, .int v_monks, .int v_aways, .int v_feasts, .int v_gifts, .int v_leaves, .int v_lates, .int v_store, .int v_allCandles, .ref a_isPriest, .ref a_bars, .ref a_joined, .ref a_turns, .ref a_awayMonk, .ref a_awayFrom, .ref a_awayTo, .ref a_feastDay, .ref a_rank, .ref a_isWeekly, .ref a_isDouble, .ref a_giftDay, .ref a_giftFrom, .ref a_owed, .ref a_said, .ref a_spared, .ref a_leaveGift, .ref a_leaveFrom, .ref a_leaveTo, .ref a_lateDay, .ref a_lateOffice, .ref a_lateBy, .ref a_guests, .ref a_who, .ref a_used, .ref a_lacks, .ref a_candles, .ref a_masses, .ref a_owing, .ref a_heldOn, .ref a_waits, .ref a_tape, .ref a_text, .int v_taped, .int v_size, .int v_at, .int v_fault, .int v_rules, .ref a_statements, .ref a_taken, .ref a_sort, .ref a_first, .ref a_second, .int v_wordEnd, .int v_number])), (a_joined, .inl (cI, 24, .inl f_joined)), (a_awayMonk, .inl (cI, 60, .inl f_awayMonk)), (a_awayFrom, .inl (cI, 60, .inl f_awayFrom)), (a_awayTo, .inl (cI, 60, .inl f_awayTo))]) [0, 2, 4, 5, 6] rfl
            refine roV (As := [.int j, .int d]) (rest := []) S (e_mAble  (by omega) (by omega) (by omega) (by omega)) (cwV 2 hts gX12_nextFor_X12_isAble rfl rfl rfl ⟨rfl, hd_X12_isAble⟩ ⟨Nat.le_of_ble_eq_true rfl, Nat.le_of_ble_eq_true rfl⟩) hK hPc (va_recv hK.1 hPc (ci := 11) (q0 := 0) rfl rfl) rfl hl.1 rfl (Nat.le_of_ble_eq_true rfl) dX12_nextFor_40 ⟨Nat.le_of_ble_eq_true rfl, Nat.le_of_ble_eq_true rfl⟩ (fun r_ab hw_ab => ?_)
            have hw_ab : (r_ab.toInt = 1 ∧ AbleP f_joined f_awayMonk f_awayFrom f_awayTo v_aways.toInt j d) ∨ (r_ab.toInt = 0 ∧ ¬ AbleP f_joined f_awayMonk f_awayFrom f_awayTo v_aways.toInt j d) := hw_ab
            have h1_ab := if01 hw_ab
            refine lv_if_eq (tgt := 94) hx hb dX12_nextFor_43 (by decide) (fun c_9 => ?_) (fun c_9 => ?_)
            · have tc_9 := t_eq c_9
              obtain ⟨x_10, ex_10⟩ : ∃ y : Int32, y = j + 1 := ⟨_, rfl⟩
              refine lv_iinc (v := x_10) (lv' := [(5, .int x_10), (4, .int a), (0, .ref h), (1, .int k), (2, .int d), (3, .int b)]) hx hb dX12_nextFor_94 hl (k := 0) rfl (by rw [ex_10]; rfl) (by decide) rfl (fun ls hl => ?_)
              first | have tx_10 := t_add ex_10 (by omega) (by omega) | skip
              refine lv_goto (tgt := 6) hx hb dX12_nextFor_97 (by decide) ?_
              exact ih6 a x_10 (by omega) (by omega) (by omega) (by first | exact hpk.take (by omega) (by omega) ((okB_ix (by omega)).mpr ⟨cb, fun h => cc (hbr.mp h), el0 hw_hd (by omega), if1 hw_ab (by omega)⟩) (by first | exact Or.inl (by omega) | exact Or.inr (by show (f_turns _).toInt < (f_turns _).toInt; rw [← ey1, ← ey2]; omega)) | exact hpk.skip (by omega) (by omega) (fun h => ((okB_ix (by omega)).mp h).1 cb) | exact hpk.skip (by omega) (by omega) (fun h => ((okB_ix (by omega)).mp h).2.1 (hbr.mpr cc)) | exact hpk.skip (by omega) (by omega) (fun h => if0 hw_ab (by omega) ((okB_ix (by omega)).mp h).2.2.2) | exact hpk.skip (by omega) (by omega) (fun h => el1 hw_hd (by omega) ((okB_ix (by omega)).mp h).2.2.1) | exact hpk.keep (by omega) (by omega) (by omega) (by show (f_turns _).toInt ≤ (f_turns _).toInt; rw [← ey1, ← ey2]; omega)) ls (lv_sub hl [0, 1, 2, 3, 4, 5] rfl)
            · have tc_9 := t_neq c_9
              refine lv_aload_n hx hb dX12_nextFor_46 rfl (lv_at hl 2 rfl) ?_
              refine lv_iload hx hb dX12_nextFor_47 (lv_at hl 0 rfl) ?_
              refine lv_iload_n hx hb dX12_nextFor_49 rfl (lv_at hl 4 rfl) ?_
              have hPc := hP.sub (ws' := [(h, .inr (11, [.int v_today, .int v_monks, .int v_aways, .int v_feasts, .int v_gifts, .int v_leaves, .int v_lates, .int v_store, .int v_allCandles, .ref a_isPriest, .ref a_bars, .ref a_joined, .ref a_turns, .ref a_awayMonk, .ref a_awayFrom, .ref a_awayTo, .ref a_feastDay, .ref a_rank, .ref a_isWeekly, .ref a_isDouble, .ref a_giftDay, .ref a_giftFrom, .ref a_owed, .ref a_said, .ref a_spared, .ref a_leaveGift, .ref a_leaveFrom, .ref a_leaveTo, .ref a_lateDay, .ref a_lateOffice, .ref a_lateBy, .ref a_guests, .ref a_who, .ref a_used, .ref a_lacks, .ref a_candles, .ref a_masses, .ref a_owing, .ref a_heldOn, .ref a_waits, .ref a_tape, .ref a_text, .int v_taped, .int v_size, .int v_at, .int v_fault, .int v_rules, .ref a_statements, .ref a_taken, .ref a_sort, .ref a_first, .ref a_second, .int v_wordEnd, .int v_number])), (a_who, .inl (cI, 4380, .inl f_who))]) [0, 7] rfl
              refine roV (As := [.int j, .int d]) (rest := []) S (e_mHas  (by omega) (by omega)) (cwV 2 hts gX12_nextFor_X12_hasDuty rfl rfl rfl ⟨rfl, hd_X12_hasDuty⟩ ⟨Nat.le_of_ble_eq_true rfl, Nat.le_of_ble_eq_true rfl⟩) hK hPc (va_recv hK.1 hPc (ci := 11) (q0 := 0) rfl rfl) rfl hl.1 rfl (Nat.le_of_ble_eq_true rfl) dX12_nextFor_50 ⟨Nat.le_of_ble_eq_true rfl, Nat.le_of_ble_eq_true rfl⟩ (fun r_hd hw_hd => ?_)
              have hw_hd : (r_hd.toInt = 0 ∧ FreeP f_who d j) ∨ (r_hd.toInt = 1 ∧ ¬ FreeP f_who d j) := hw_hd
              have h1_hd := el01 hw_hd
              refine lv_if_eq (tgt := 59) hx hb dX12_nextFor_53 (by decide) (fun c_11 => ?_) (fun c_11 => ?_)
              · have tc_11 := t_eq c_11
                refine lv_iload hx hb dX12_nextFor_59 (lv_at hl 1 rfl) ?_
                refine lv_iconst (v := (-1)) hx hb dX12_nextFor_61 (by decide) ?_
                refine lv_icmp_eq (tgt := 90) hx hb dX12_nextFor_62 (by decide) (fun c_12 => ?_) (fun c_12 => ?_)
                · have tc_12 := t_eq c_12
                  refine lv_iload hx hb dX12_nextFor_90 (lv_at hl 0 rfl) ?_
                  refine lv_istore (lv' := [(4, .int j), (5, .int j), (0, .ref h), (1, .int k), (2, .int d), (3, .int b)]) hx hb dX12_nextFor_92 hl (by decide) rfl (fun ls hl => ?_)
                  obtain ⟨x_13, ex_13⟩ : ∃ y : Int32, y = j + 1 := ⟨_, rfl⟩
                  refine lv_iinc (v := x_13) (lv' := [(5, .int x_13), (4, .int j), (0, .ref h), (1, .int k), (2, .int d), (3, .int b)]) hx hb dX12_nextFor_94 hl (k := 1) rfl (by rw [ex_13]; rfl) (by decide) rfl (fun ls hl => ?_)
                  first | have tx_13 := t_add ex_13 (by omega) (by omega) | skip
                  refine lv_goto (tgt := 6) hx hb dX12_nextFor_97 (by decide) ?_
                  exact ih6 j x_13 (by omega) (by omega) (by omega) (by first | exact hpk.take (by omega) (by omega) ((okB_ix (by omega)).mpr ⟨cb, fun h => cc (hbr.mp h), el0 hw_hd (by omega), if1 hw_ab (by omega)⟩) (by first | exact Or.inl (by omega) | exact Or.inr (by show (f_turns _).toInt < (f_turns _).toInt; rw [← ey1, ← ey2]; omega)) | exact hpk.skip (by omega) (by omega) (fun h => ((okB_ix (by omega)).mp h).1 cb) | exact hpk.skip (by omega) (by omega) (fun h => ((okB_ix (by omega)).mp h).2.1 (hbr.mpr cc)) | exact hpk.skip (by omega) (by omega) (fun h => if0 hw_ab (by omega) ((okB_ix (by omega)).mp h).2.2.2) | exact hpk.skip (by omega) (by omega) (fun h => el1 hw_hd (by omega) ((okB_ix (by omega)).mp h).2.2.1) | exact hpk.keep (by omega) (by omega) (by omega) (by show (f_turns _).toInt ≤ (f_turns _).toInt; rw [← ey1, ← ey2]; omega)) ls (lv_sub hl [0, 1, 2, 3, 4, 5] rfl)
                · have tc_12 := t_neq c_12
                  refine lv_aload_n hx hb dX12_nextFor_65 rfl (lv_at hl 2 rfl) ?_
                  refine va_get (D := D) (ci := 11) (v := .ref a_turns) (C := RX12) (T := TX12) (N := 54) hx hb hts in_e_next_X12 hown hK.1 hP 0 rfl rfl 12 (by decide) lk2 (fun _ h9 => h9) rfl dX12_nextFor_66 ?_
                  refine lv_iconst (v := 4) hx hb dX12_nextFor_69 (by decide) ?_
                  refine lv_iload hx hb dX12_nextFor_70 (lv_at hl 0 rfl) ?_
                  refine lv_imul hx hb dX12_nextFor_72 ?_
                  refine lv_topi (fun x_14 ex_14 => ?_)
                  first | have tx_14 := t_mulL kk4 ex_14 (by omega) (by omega) | skip
                  refine lv_iload_n hx hb dX12_nextFor_73 rfl (lv_at hl 3 rfl) ?_
                  refine lv_iadd hx hb dX12_nextFor_74 ?_
                  refine lv_topi (fun i1 ei1 => ?_)
                  first | have ti1 := t_add ei1 (by omega) (by omega) | skip
                  refine va_iald hx hb hK.1 hP 3 0 rfl rfl (t_in (by omega) (by omega)) dX12_nextFor_75 ?_
                  refine lv_topi (fun y1 ey1 => ?_)
                  have ey1 : y1 = f_turns (4 * j.toNatClampNeg + k.toNatClampNeg) := by rw [ey1, ix4 (i := j) (k := k) (by omega) (by omega) (by omega)]
                  refine lv_aload_n hx hb dX12_nextFor_76 rfl (lv_at hl 2 rfl) ?_
                  refine va_get (D := D) (ci := 11) (v := .ref a_turns) (C := RX12) (T := TX12) (N := 54) hx hb hts in_e_next_X12 hown hK.1 hP 0 rfl rfl 12 (by decide) lk2 (fun _ h9 => h9) rfl dX12_nextFor_77 ?_
                  refine lv_iconst (v := 4) hx hb dX12_nextFor_80 (by decide) ?_
                  refine lv_iload hx hb dX12_nextFor_81 (lv_at hl 1 rfl) ?_
                  refine lv_imul hx hb dX12_nextFor_83 ?_
                  refine lv_topi (fun x_17 ex_17 => ?_)
                  first | have tx_17 := t_mulL kk4 ex_17 (by omega) (by omega) | skip
                  refine lv_iload_n hx hb dX12_nextFor_84 rfl (lv_at hl 3 rfl) ?_
                  refine lv_iadd hx hb dX12_nextFor_85 ?_
                  refine lv_topi (fun i2 ei2 => ?_)
                  first | have ti2 := t_add ei2 (by omega) (by omega) | skip
                  refine va_iald hx hb hK.1 hP 3 0 rfl rfl (t_in (by omega) (by omega)) dX12_nextFor_86 ?_
                  refine lv_topi (fun y2 ey2 => ?_)
                  have ey2 : y2 = f_turns (4 * a.toNatClampNeg + k.toNatClampNeg) := by rw [ey2, ix4 (i := a) (k := k) (by omega) (by omega) (by omega)]
                  refine lv_icmp_ge (tgt := 94) hx hb dX12_nextFor_87 (by decide) (fun c_20 => ?_) (fun c_20 => ?_)
                  · have tc_20 := t_le c_20
                    obtain ⟨x_21, ex_21⟩ : ∃ y : Int32, y = j + 1 := ⟨_, rfl⟩
                    refine lv_iinc (v := x_21) (lv' := [(5, .int x_21), (4, .int a), (0, .ref h), (1, .int k), (2, .int d), (3, .int b)]) hx hb dX12_nextFor_94 hl (k := 0) rfl (by rw [ex_21]; rfl) (by decide) rfl (fun ls hl => ?_)
                    first | have tx_21 := t_add ex_21 (by omega) (by omega) | skip
                    refine lv_goto (tgt := 6) hx hb dX12_nextFor_97 (by decide) ?_
                    exact ih6 a x_21 (by omega) (by omega) (by omega) (by first | exact hpk.take (by omega) (by omega) ((okB_ix (by omega)).mpr ⟨cb, fun h => cc (hbr.mp h), el0 hw_hd (by omega), if1 hw_ab (by omega)⟩) (by first | exact Or.inl (by omega) | exact Or.inr (by show (f_turns _).toInt < (f_turns _).toInt; rw [← ey1, ← ey2]; omega)) | exact hpk.skip (by omega) (by omega) (fun h => ((okB_ix (by omega)).mp h).1 cb) | exact hpk.skip (by omega) (by omega) (fun h => ((okB_ix (by omega)).mp h).2.1 (hbr.mpr cc)) | exact hpk.skip (by omega) (by omega) (fun h => if0 hw_ab (by omega) ((okB_ix (by omega)).mp h).2.2.2) | exact hpk.skip (by omega) (by omega) (fun h => el1 hw_hd (by omega) ((okB_ix (by omega)).mp h).2.2.1) | exact hpk.keep (by omega) (by omega) (by omega) (by show (f_turns _).toInt ≤ (f_turns _).toInt; rw [← ey1, ← ey2]; omega)) ls (lv_sub hl [0, 1, 2, 3, 4, 5] rfl)
                  · have tc_20 := t_nle c_20
                    refine lv_iload hx hb dX12_nextFor_90 (lv_at hl 0 rfl) ?_
                    refine lv_istore (lv' := [(4, .int j), (5, .int j), (0, .ref h), (1, .int k), (2, .int d), (3, .int b)]) hx hb dX12_nextFor_92 hl (by decide) rfl (fun ls hl => ?_)
                    obtain ⟨x_22, ex_22⟩ : ∃ y : Int32, y = j + 1 := ⟨_, rfl⟩
                    refine lv_iinc (v := x_22) (lv' := [(5, .int x_22), (4, .int j), (0, .ref h), (1, .int k), (2, .int d), (3, .int b)]) hx hb dX12_nextFor_94 hl (k := 1) rfl (by rw [ex_22]; rfl) (by decide) rfl (fun ls hl => ?_)
                    first | have tx_22 := t_add ex_22 (by omega) (by omega) | skip
                    refine lv_goto (tgt := 6) hx hb dX12_nextFor_97 (by decide) ?_
                    exact ih6 j x_22 (by omega) (by omega) (by omega) (by first | exact hpk.take (by omega) (by omega) ((okB_ix (by omega)).mpr ⟨cb, fun h => cc (hbr.mp h), el0 hw_hd (by omega), if1 hw_ab (by omega)⟩) (by first | exact Or.inl (by omega) | exact Or.inr (by show (f_turns _).toInt < (f_turns _).toInt; rw [← ey1, ← ey2]; omega)) | exact hpk.skip (by omega) (by omega) (fun h => ((okB_ix (by omega)).mp h).1 cb) | exact hpk.skip (by omega) (by omega) (fun h => ((okB_ix (by omega)).mp h).2.1 (hbr.mpr cc)) | exact hpk.skip (by omega) (by omega) (fun h => if0 hw_ab (by omega) ((okB_ix (by omega)).mp h).2.2.2) | exact hpk.skip (by omega) (by omega) (fun h => el1 hw_hd (by omega) ((okB_ix (by omega)).mp h).2.2.1) | exact hpk.keep (by omega) (by omega) (by omega) (by show (f_turns _).toInt ≤ (f_turns _).toInt; rw [← ey1, ← ey2]; omega)) ls (lv_sub hl [0, 1, 2, 3, 4, 5] rfl)
              · have tc_11 := t_neq c_11
                refine lv_goto (tgt := 94) hx hb dX12_nextFor_56 (by decide) ?_
                obtain ⟨x_23, ex_23⟩ : ∃ y : Int32, y = j + 1 := ⟨_, rfl⟩
                refine lv_iinc (v := x_23) (lv' := [(5, .int x_23), (4, .int a), (0, .ref h), (1, .int k), (2, .int d), (3, .int b)]) hx hb dX12_nextFor_94 hl (k := 0) rfl (by rw [ex_23]; rfl) (by decide) rfl (fun ls hl => ?_)
                first | have tx_23 := t_add ex_23 (by omega) (by omega) | skip
                refine lv_goto (tgt := 6) hx hb dX12_nextFor_97 (by decide) ?_
                exact ih6 a x_23 (by omega) (by omega) (by omega) (by first | exact hpk.take (by omega) (by omega) ((okB_ix (by omega)).mpr ⟨cb, fun h => cc (hbr.mp h), el0 hw_hd (by omega), if1 hw_ab (by omega)⟩) (by first | exact Or.inl (by omega) | exact Or.inr (by show (f_turns _).toInt < (f_turns _).toInt; rw [← ey1, ← ey2]; omega)) | exact hpk.skip (by omega) (by omega) (fun h => ((okB_ix (by omega)).mp h).1 cb) | exact hpk.skip (by omega) (by omega) (fun h => ((okB_ix (by omega)).mp h).2.1 (hbr.mpr cc)) | exact hpk.skip (by omega) (by omega) (fun h => if0 hw_ab (by omega) ((okB_ix (by omega)).mp h).2.2.2) | exact hpk.skip (by omega) (by omega) (fun h => el1 hw_hd (by omega) ((okB_ix (by omega)).mp h).2.2.1) | exact hpk.keep (by omega) (by omega) (by omega) (by show (f_turns _).toInt ≤ (f_turns _).toInt; rw [← ey1, ← ey2]; omega)) ls (lv_sub hl [0, 1, 2, 3, 4, 5] rfl)
  exact loop6 ((v_monks.toInt - (0 : Int32).toInt).toNat + 1) (-1) 0 (by omega) (by omega) (by omega) (IsPick.zero (by omega) (by omega)) ls (lv_sub hl [0, 1, 2, 3, 4, 5] rfl)

theorem in_e_mhas_X12 : ∀ w ∈ wsX120, w ∈ wsX12_has := tl_X12_has_X12
set_option maxHeartbeats 8000000 in
set_option maxRecDepth 100000 in
theorem e_mhas {l : Launch} {D : va_G} {cI cZ cB : ClassId} {sz : Nat} {h a_isPriest a_bars a_joined a_turns a_awayMonk a_awayFrom a_awayTo a_feastDay a_rank a_isWeekly a_isDouble a_giftDay a_giftFrom a_owed a_said a_spared a_leaveGift a_leaveFrom a_leaveTo a_lateDay a_lateOffice a_lateBy a_guests a_who a_used a_lacks a_candles a_masses a_owing a_heldOn a_waits a_tape a_text a_statements a_taken a_sort a_first a_second : Nat} {v_today v_monks v_aways v_feasts v_gifts v_leaves v_lates v_store v_allCandles v_taped v_size v_at v_fault v_rules v_wordEnd v_number : Int32} {f_turns f_who : Nat → Int32} {i k d : Int32} (hi : i.toInt = -1 ∨ (0 ≤ i.toInt ∧ i.toInt < 24)) (hk0 : 0 ≤ k.toInt) (hk1 : k.toInt < 4) (hd0 : 0 ≤ d.toInt) (hd1 : d.toInt ≤ 1094) (hw : InR f_who 4380 (-1) 24) : Met l yX12_has wsX12_has ({ frames := 0, cells := 0, slots := 0, locals := 0 }) (RW D cI cZ cB [.ref h, .int i, .int k, .int d] sz [(h, .inr (11, [.int v_today, .int v_monks, .int v_aways, .int v_feasts, .int v_gifts, .int v_leaves, .int v_lates, .int v_store, .int v_allCandles, .ref a_isPriest, .ref a_bars, .ref a_joined, .ref a_turns, .ref a_awayMonk, .ref a_awayFrom, .ref a_awayTo, .ref a_feastDay, .ref a_rank, .ref a_isWeekly, .ref a_isDouble, .ref a_giftDay, .ref a_giftFrom, .ref a_owed, .ref a_said, .ref a_spared, .ref a_leaveGift, .ref a_leaveFrom, .ref a_leaveTo, .ref a_lateDay, .ref a_lateOffice, .ref a_lateBy, .ref a_guests, .ref a_who, .ref a_used, .ref a_lacks, .ref a_candles, .ref a_masses, .ref a_owing, .ref a_heldOn, .ref a_waits, .ref a_tape, .ref a_text, .int v_taped, .int v_size, .int v_at, .int v_fault, .int v_rules, .ref a_statements, .ref a_taken, .ref a_sort, .ref a_first, .ref a_second, .int v_wordEnd, .int v_number])), (a_turns, .inl (cI, 96, .inl f_turns)), (a_who, .inl (cI, 4380, .inl f_who))]) (va_Qv (fun u : (Nat → Int32) × (Nat → Int32) => InR u.1 4380 (-1) 24 ∧ u.1 = upd f_who (4 * d.toNatClampNeg + k.toNatClampNeg) i ∧ u.2 = givF f_turns i k) (BW D [(h, .inr (11, [.int v_today, .int v_monks, .int v_aways, .int v_feasts, .int v_gifts, .int v_leaves, .int v_lates, .int v_store, .int v_allCandles, .ref a_isPriest, .ref a_bars, .ref a_joined, .ref a_turns, .ref a_awayMonk, .ref a_awayFrom, .ref a_awayTo, .ref a_feastDay, .ref a_rank, .ref a_isWeekly, .ref a_isDouble, .ref a_giftDay, .ref a_giftFrom, .ref a_owed, .ref a_said, .ref a_spared, .ref a_leaveGift, .ref a_leaveFrom, .ref a_leaveTo, .ref a_lateDay, .ref a_lateOffice, .ref a_lateBy, .ref a_guests, .ref a_who, .ref a_used, .ref a_lacks, .ref a_candles, .ref a_masses, .ref a_owing, .ref a_heldOn, .ref a_waits, .ref a_tape, .ref a_text, .int v_taped, .int v_size, .int v_at, .int v_fault, .int v_rules, .ref a_statements, .ref a_taken, .ref a_sort, .ref a_first, .ref a_second, .int v_wordEnd, .int v_number])), (a_turns, .inl (cI, 96, .inl f_turns)), (a_who, .inl (cI, 4380, .inl f_who))] sz (fun u : (Nat → Int32) × (Nat → Int32) => [(h, .inr (11, [.int v_today, .int v_monks, .int v_aways, .int v_feasts, .int v_gifts, .int v_leaves, .int v_lates, .int v_store, .int v_allCandles, .ref a_isPriest, .ref a_bars, .ref a_joined, .ref a_turns, .ref a_awayMonk, .ref a_awayFrom, .ref a_awayTo, .ref a_feastDay, .ref a_rank, .ref a_isWeekly, .ref a_isDouble, .ref a_giftDay, .ref a_giftFrom, .ref a_owed, .ref a_said, .ref a_spared, .ref a_leaveGift, .ref a_leaveFrom, .ref a_leaveTo, .ref a_lateDay, .ref a_lateOffice, .ref a_lateBy, .ref a_guests, .ref a_who, .ref a_used, .ref a_lacks, .ref a_candles, .ref a_masses, .ref a_owing, .ref a_heldOn, .ref a_waits, .ref a_tape, .ref a_text, .int v_taped, .int v_size, .int v_at, .int v_fault, .int v_rules, .ref a_statements, .ref a_taken, .ref a_sort, .ref a_first, .ref a_second, .int v_wordEnd, .int v_number])), (a_turns, .inl (cI, 96, .inl u.2)), (a_who, .inl (cI, 4380, .inl u.1))])) (va_A [(h, .inr (11, [.int v_today, .int v_monks, .int v_aways, .int v_feasts, .int v_gifts, .int v_leaves, .int v_lates, .int v_store, .int v_allCandles, .ref a_isPriest, .ref a_bars, .ref a_joined, .ref a_turns, .ref a_awayMonk, .ref a_awayFrom, .ref a_awayTo, .ref a_feastDay, .ref a_rank, .ref a_isWeekly, .ref a_isDouble, .ref a_giftDay, .ref a_giftFrom, .ref a_owed, .ref a_said, .ref a_spared, .ref a_leaveGift, .ref a_leaveFrom, .ref a_leaveTo, .ref a_lateDay, .ref a_lateOffice, .ref a_lateBy, .ref a_guests, .ref a_who, .ref a_used, .ref a_lacks, .ref a_candles, .ref a_masses, .ref a_owing, .ref a_heldOn, .ref a_waits, .ref a_tape, .ref a_text, .int v_taped, .int v_size, .int v_at, .int v_fault, .int v_rules, .ref a_statements, .ref a_taken, .ref a_sort, .ref a_first, .ref a_second, .int v_wordEnd, .int v_number])), (a_turns, .inl (cI, 96, .inl f_turns)), (a_who, .inl (cI, 4380, .inl f_who))] sz)) 0 (0) (va_A [(h, .inr (11, [.int v_today, .int v_monks, .int v_aways, .int v_feasts, .int v_gifts, .int v_leaves, .int v_lates, .int v_store, .int v_allCandles, .ref a_isPriest, .ref a_bars, .ref a_joined, .ref a_turns, .ref a_awayMonk, .ref a_awayFrom, .ref a_awayTo, .ref a_feastDay, .ref a_rank, .ref a_isWeekly, .ref a_isDouble, .ref a_giftDay, .ref a_giftFrom, .ref a_owed, .ref a_said, .ref a_spared, .ref a_leaveGift, .ref a_leaveFrom, .ref a_leaveTo, .ref a_lateDay, .ref a_lateOffice, .ref a_lateBy, .ref a_guests, .ref a_who, .ref a_used, .ref a_lacks, .ref a_candles, .ref a_masses, .ref a_owing, .ref a_heldOn, .ref a_waits, .ref a_tape, .ref a_text, .int v_taped, .int v_size, .int v_at, .int v_fault, .int v_rules, .ref a_statements, .ref a_taken, .ref a_sort, .ref a_first, .ref a_second, .int v_wordEnd, .int v_number])), (a_turns, .inl (cI, 96, .inl f_turns)), (a_who, .inl (cI, 4380, .inl f_who))] sz) := by
  refine rw_retv (cc := cX12_has) (maxL := 4) (own := RX12) (by decide) rfl rfl (Nat.le_of_ble_eq_true rfl) ?_
  intro p e s m args below meth c Q A S hin hret hP hK hD hA hS ls hl
  obtain ⟨hx, hb, hml, hown, hts⟩ := id S
  have hl : lv_has ls 4 [(0, .ref h), (1, .int i), (2, .int k), (3, .int d)] := hl
  have kkm1 : (-1 : Int32).toInt = -1 := by decide
  have kk0 : (0 : Int32).toInt = 0 := by decide
  have kk1 : (1 : Int32).toInt = 1 := by decide
  have kk4 : (4 : Int32).toInt = 4 := by decide
  have lk0 := hts (.fieldLink RX12 80 "AbbeyHoursModel" "who" "[I") (List.mem_cons_of_mem _ (List.mem_append_left _ (List.mem_of_getElem? (i := 0) rfl)))
  have lk1 := hts (.fieldLink RX12 20 "AbbeyHoursModel" "turns" "[I") (List.mem_cons_of_mem _ (List.mem_append_left _ (List.mem_of_getElem? (i := 1) rfl)))
  refine lv_aload_n hx hb dX12_has_0 rfl (lv_at hl 0 rfl) ?_
  refine va_get (D := D) (ci := 11) (v := .ref a_who) (C := RX12) (T := TX12) (N := 54) hx hb hts in_e_mhas_X12 hown hK.1 hP 0 rfl rfl 32 (by decide) lk0 (fun _ h9 => h9) rfl dX12_has_1 ?_
  refine lv_iconst (v := 4) hx hb dX12_has_4 (by decide) ?_
  refine lv_iload_n hx hb dX12_has_5 rfl (lv_at hl 3 rfl) ?_
  refine lv_imul hx hb dX12_has_6 ?_
  refine lv_topi (fun x_1 ex_1 => ?_)
  first | have tx_1 := t_mulL kk4 ex_1 (by omega) (by omega) | skip
  refine lv_iload_n hx hb dX12_has_7 rfl (lv_at hl 2 rfl) ?_
  refine lv_iadd hx hb dX12_has_8 ?_
  refine lv_topi (fun iw eiw => ?_)
  first | have tiw := t_add eiw (by omega) (by omega) | skip
  refine lv_iload_n hx hb dX12_has_9 rfl (lv_at hl 1 rfl) ?_
  refine va_iast hx hb hK.1 hP hD hS 2 0 rfl rfl (t_in (by omega) (by omega)) dX12_has_10 (fun H locs hP hD hS => ?_)
  obtain ⟨gw, egw⟩ : ∃ z : Nat → Int32, z = upd f_who ((iw : Int32).toNatClampNeg) i := ⟨_, rfl⟩
  rw [← egw] at hP hD
  have hP : va_P D vwCl [(h, .inr (11, [.int v_today, .int v_monks, .int v_aways, .int v_feasts, .int v_gifts, .int v_leaves, .int v_lates, .int v_store, .int v_allCandles, .ref a_isPriest, .ref a_bars, .ref a_joined, .ref a_turns, .ref a_awayMonk, .ref a_awayFrom, .ref a_awayTo, .ref a_feastDay, .ref a_rank, .ref a_isWeekly, .ref a_isDouble, .ref a_giftDay, .ref a_giftFrom, .ref a_owed, .ref a_said, .ref a_spared, .ref a_leaveGift, .ref a_leaveFrom, .ref a_leaveTo, .ref a_lateDay, .ref a_lateOffice, .ref a_lateBy, .ref a_guests, .ref a_who, .ref a_used, .ref a_lacks, .ref a_candles, .ref a_masses, .ref a_owing, .ref a_heldOn, .ref a_waits, .ref a_tape, .ref a_text, .int v_taped, .int v_size, .int v_at, .int v_fault, .int v_rules, .ref a_statements, .ref a_taken, .ref a_sort, .ref a_first, .ref a_second, .int v_wordEnd, .int v_number])), (a_turns, .inl (cI, 96, .inl f_turns)), (a_who, .inl (cI, 4380, .inl gw))] H := hP
  have hD : va_D A [(h, .inr (11, [.int v_today, .int v_monks, .int v_aways, .int v_feasts, .int v_gifts, .int v_leaves, .int v_lates, .int v_store, .int v_allCandles, .ref a_isPriest, .ref a_bars, .ref a_joined, .ref a_turns, .ref a_awayMonk, .ref a_awayFrom, .ref a_awayTo, .ref a_feastDay, .ref a_rank, .ref a_isWeekly, .ref a_isDouble, .ref a_giftDay, .ref a_giftFrom, .ref a_owed, .ref a_said, .ref a_spared, .ref a_leaveGift, .ref a_leaveFrom, .ref a_leaveTo, .ref a_lateDay, .ref a_lateOffice, .ref a_lateBy, .ref a_guests, .ref a_who, .ref a_used, .ref a_lacks, .ref a_candles, .ref a_masses, .ref a_owing, .ref a_heldOn, .ref a_waits, .ref a_tape, .ref a_text, .int v_taped, .int v_size, .int v_at, .int v_fault, .int v_rules, .ref a_statements, .ref a_taken, .ref a_sort, .ref a_first, .ref a_second, .int v_wordEnd, .int v_number])), (a_turns, .inl (cI, 96, .inl f_turns)), (a_who, .inl (cI, 4380, .inl gw))] := hD
  refine lv_iload_n hx hb dX12_has_11 rfl (lv_at hl 1 rfl) ?_
  refine lv_iconst (v := (-1)) hx hb dX12_has_12 (by decide) ?_
  refine lv_icmp_eq (tgt := 30) hx hb dX12_has_13 (by decide) (fun cc => ?_) (fun cc => ?_)
  · have tcc := t_eq cc
    exact hret (gw, f_turns) _ _ _ _ (show InR gw 4380 (-1) 24 ∧ gw = upd f_who (4 * d.toNatClampNeg + k.toNatClampNeg) i ∧ f_turns = givF f_turns i k from by first | exact ⟨by rw [egw]; exact hw.put (by omega) (by omega), by rw [egw, ix4 (i := d) (k := k) (by omega) (by omega) (by omega)], by unfold givF; rw [if_pos cc]⟩ | exact ⟨by rw [egw]; exact hw.put (by omega) (by omega), by rw [egw, ix4 (i := d) (k := k) (by omega) (by omega) (by omega)], by unfold givF; rw [if_neg cc, egt, ezv, eyv, ix4 (i := i) (k := k) (by omega) (by omega) (by omega)]⟩) (hP.sub [0, 1, 2] rfl) (hD.sub [0, 1, 2] (by decide +kernel) rfl) hS dX12_has_30
  · have tcc := t_neq cc
    refine lv_aload_n hx hb dX12_has_16 rfl (lv_at hl 0 rfl) ?_
    refine va_get (D := D) (ci := 11) (v := .ref a_turns) (C := RX12) (T := TX12) (N := 54) hx hb hts in_e_mhas_X12 hown hK.1 hP 0 rfl rfl 12 (by decide) lk1 (fun _ h9 => h9) rfl dX12_has_17 ?_
    refine lv_iconst (v := 4) hx hb dX12_has_20 (by decide) ?_
    refine lv_iload_n hx hb dX12_has_21 rfl (lv_at hl 1 rfl) ?_
    refine lv_imul hx hb dX12_has_22 ?_
    refine lv_topi (fun x_5 ex_5 => ?_)
    first | have tx_5 := t_mulL kk4 ex_5 (by omega) (by omega) | skip
    refine lv_iload_n hx hb dX12_has_23 rfl (lv_at hl 2 rfl) ?_
    refine lv_iadd hx hb dX12_has_24 ?_
    refine lv_topi (fun ix eix => ?_)
    first | have tix := t_add eix (by omega) (by omega) | skip
    refine lv_dup2_11 hx hb dX12_has_25 rfl rfl ?_
    refine va_iald hx hb hK.1 hP 1 0 rfl rfl (t_in (by omega) (by omega)) dX12_has_26 ?_
    refine lv_topi (fun yv eyv => ?_)
    refine lv_iconst (v := 1) hx hb dX12_has_27 (by decide) ?_
    refine lv_iadd hx hb dX12_has_28 ?_
    refine lv_topi (fun zv ezv => ?_)
    refine va_iast hx hb hK.1 hP hD hS 1 0 rfl rfl (t_in (by omega) (by omega)) dX12_has_29 (fun H locs hP hD hS => ?_)
    obtain ⟨gt, egt⟩ : ∃ z : Nat → Int32, z = upd f_turns ((ix : Int32).toNatClampNeg) zv := ⟨_, rfl⟩
    rw [← egt] at hP hD
    have hP : va_P D vwCl [(h, .inr (11, [.int v_today, .int v_monks, .int v_aways, .int v_feasts, .int v_gifts, .int v_leaves, .int v_lates, .int v_store, .int v_allCandles, .ref a_isPriest, .ref a_bars, .ref a_joined, .ref a_turns, .ref a_awayMonk, .ref a_awayFrom, .ref a_awayTo, .ref a_feastDay, .ref a_rank, .ref a_isWeekly, .ref a_isDouble, .ref a_giftDay, .ref a_giftFrom, .ref a_owed, .ref a_said, .ref a_spared, .ref a_leaveGift, .ref a_leaveFrom, .ref a_leaveTo, .ref a_lateDay, .ref a_lateOffice, .ref a_lateBy, .ref a_guests, .ref a_who, .ref a_used, .ref a_lacks, .ref a_candles, .ref a_masses, .ref a_owing, .ref a_heldOn, .ref a_waits, .ref a_tape, .ref a_text, .int v_taped, .int v_size, .int v_at, .int v_fault, .int v_rules, .ref a_statements, .ref a_taken, .ref a_sort, .ref a_first, .ref a_second, .int v_wordEnd, .int v_number])), (a_turns, .inl (cI, 96, .inl gt)), (a_who, .inl (cI, 4380, .inl gw))] H := hP
    have hD : va_D A [(h, .inr (11, [.int v_today, .int v_monks, .int v_aways, .int v_feasts, .int v_gifts, .int v_leaves, .int v_lates, .int v_store, .int v_allCandles, .ref a_isPriest, .ref a_bars, .ref a_joined, .ref a_turns, .ref a_awayMonk, .ref a_awayFrom, .ref a_awayTo, .ref a_feastDay, .ref a_rank, .ref a_isWeekly, .ref a_isDouble, .ref a_giftDay, .ref a_giftFrom, .ref a_owed, .ref a_said, .ref a_spared, .ref a_leaveGift, .ref a_leaveFrom, .ref a_leaveTo, .ref a_lateDay, .ref a_lateOffice, .ref a_lateBy, .ref a_guests, .ref a_who, .ref a_used, .ref a_lacks, .ref a_candles, .ref a_masses, .ref a_owing, .ref a_heldOn, .ref a_waits, .ref a_tape, .ref a_text, .int v_taped, .int v_size, .int v_at, .int v_fault, .int v_rules, .ref a_statements, .ref a_taken, .ref a_sort, .ref a_first, .ref a_second, .int v_wordEnd, .int v_number])), (a_turns, .inl (cI, 96, .inl gt)), (a_who, .inl (cI, 4380, .inl gw))] := hD
    exact hret (gw, gt) _ _ _ _ (show InR gw 4380 (-1) 24 ∧ gw = upd f_who (4 * d.toNatClampNeg + k.toNatClampNeg) i ∧ gt = givF f_turns i k from by first | exact ⟨by rw [egw]; exact hw.put (by omega) (by omega), by rw [egw, ix4 (i := d) (k := k) (by omega) (by omega) (by omega)], by unfold givF; rw [if_pos cc]⟩ | exact ⟨by rw [egw]; exact hw.put (by omega) (by omega), by rw [egw, ix4 (i := d) (k := k) (by omega) (by omega) (by omega)], by unfold givF; rw [if_neg cc, egt, ezv, eyv, ix4 (i := i) (k := k) (by omega) (by omega) (by omega)]⟩) (hP.sub [0, 1, 2] rfl) (hD.sub [0, 1, 2] (by decide +kernel) rfl) hS dX12_has_30

theorem in_e_owes_X12 : ∀ w ∈ wsX120, w ∈ wsX12_owes := tl_X12_owes_X12
set_option maxHeartbeats 8000000 in
set_option maxRecDepth 100000 in
theorem e_owes {l : Launch} {D : va_G} {cI cZ cB : ClassId} {sz : Nat} {h a_isPriest a_bars a_joined a_turns a_awayMonk a_awayFrom a_awayTo a_feastDay a_rank a_isWeekly a_isDouble a_giftDay a_giftFrom a_owed a_said a_spared a_leaveGift a_leaveFrom a_leaveTo a_lateDay a_lateOffice a_lateBy a_guests a_who a_used a_lacks a_candles a_masses a_owing a_heldOn a_waits a_tape a_text a_statements a_taken a_sort a_first a_second : Nat} {v_today v_monks v_aways v_feasts v_gifts v_leaves v_lates v_store v_allCandles v_taped v_size v_at v_fault v_rules v_wordEnd v_number : Int32} {f_isWeekly f_isDouble f_giftDay f_giftFrom f_owed f_spared f_leaveGift f_leaveFrom f_leaveTo : Nat → Int32} {d : Int32} (h0_gifts : 0 ≤ v_gifts.toInt) (h1_gifts : v_gifts.toInt ≤ 40) (h0_leaves : 0 ≤ v_leaves.toInt) (h1_leaves : v_leaves.toInt ≤ 40) (hgf : InR f_giftFrom v_gifts.toInt (-2147483648) (d.toInt + 1)) : Met l yX12_owes wsX12_owes ({ frames := 1, cells := 0, slots := 0, locals := 22 }) (RW D cI cZ cB [.ref h, .int d] sz [(h, .inr (11, [.int v_today, .int v_monks, .int v_aways, .int v_feasts, .int v_gifts, .int v_leaves, .int v_lates, .int v_store, .int v_allCandles, .ref a_isPriest, .ref a_bars, .ref a_joined, .ref a_turns, .ref a_awayMonk, .ref a_awayFrom, .ref a_awayTo, .ref a_feastDay, .ref a_rank, .ref a_isWeekly, .ref a_isDouble, .ref a_giftDay, .ref a_giftFrom, .ref a_owed, .ref a_said, .ref a_spared, .ref a_leaveGift, .ref a_leaveFrom, .ref a_leaveTo, .ref a_lateDay, .ref a_lateOffice, .ref a_lateBy, .ref a_guests, .ref a_who, .ref a_used, .ref a_lacks, .ref a_candles, .ref a_masses, .ref a_owing, .ref a_heldOn, .ref a_waits, .ref a_tape, .ref a_text, .int v_taped, .int v_size, .int v_at, .int v_fault, .int v_rules, .ref a_statements, .ref a_taken, .ref a_sort, .ref a_first, .ref a_second, .int v_wordEnd, .int v_number])), (a_isWeekly, .inl (cZ, 40, .inl f_isWeekly)), (a_isDouble, .inl (cZ, 40, .inl f_isDouble)), (a_giftDay, .inl (cI, 40, .inl f_giftDay)), (a_giftFrom, .inl (cI, 40, .inl f_giftFrom)), (a_owed, .inl (cI, 40, .inl f_owed)), (a_spared, .inl (cI, 40, .inl f_spared)), (a_leaveGift, .inl (cI, 40, .inl f_leaveGift)), (a_leaveFrom, .inl (cI, 40, .inl f_leaveFrom)), (a_leaveTo, .inl (cI, 40, .inl f_leaveTo))]) (va_Qv (fun u : (Nat → Int32) × (Nat → Int32) => OweR (dueQ f_isWeekly f_giftDay d) (leaveQ f_leaveGift f_leaveFrom f_leaveTo v_leaves.toInt d) f_isDouble v_gifts.toNatClampNeg f_owed f_spared u.1 u.2) (BW D [(h, .inr (11, [.int v_today, .int v_monks, .int v_aways, .int v_feasts, .int v_gifts, .int v_leaves, .int v_lates, .int v_store, .int v_allCandles, .ref a_isPriest, .ref a_bars, .ref a_joined, .ref a_turns, .ref a_awayMonk, .ref a_awayFrom, .ref a_awayTo, .ref a_feastDay, .ref a_rank, .ref a_isWeekly, .ref a_isDouble, .ref a_giftDay, .ref a_giftFrom, .ref a_owed, .ref a_said, .ref a_spared, .ref a_leaveGift, .ref a_leaveFrom, .ref a_leaveTo, .ref a_lateDay, .ref a_lateOffice, .ref a_lateBy, .ref a_guests, .ref a_who, .ref a_used, .ref a_lacks, .ref a_candles, .ref a_masses, .ref a_owing, .ref a_heldOn, .ref a_waits, .ref a_tape, .ref a_text, .int v_taped, .int v_size, .int v_at, .int v_fault, .int v_rules, .ref a_statements, .ref a_taken, .ref a_sort, .ref a_first, .ref a_second, .int v_wordEnd, .int v_number])), (a_isWeekly, .inl (cZ, 40, .inl f_isWeekly)), (a_isDouble, .inl (cZ, 40, .inl f_isDouble)), (a_giftDay, .inl (cI, 40, .inl f_giftDay)), (a_giftFrom, .inl (cI, 40, .inl f_giftFrom)), (a_owed, .inl (cI, 40, .inl f_owed)), (a_spared, .inl (cI, 40, .inl f_spared)), (a_leaveGift, .inl (cI, 40, .inl f_leaveGift)), (a_leaveFrom, .inl (cI, 40, .inl f_leaveFrom)), (a_leaveTo, .inl (cI, 40, .inl f_leaveTo))] sz (fun u : (Nat → Int32) × (Nat → Int32) => [(h, .inr (11, [.int v_today, .int v_monks, .int v_aways, .int v_feasts, .int v_gifts, .int v_leaves, .int v_lates, .int v_store, .int v_allCandles, .ref a_isPriest, .ref a_bars, .ref a_joined, .ref a_turns, .ref a_awayMonk, .ref a_awayFrom, .ref a_awayTo, .ref a_feastDay, .ref a_rank, .ref a_isWeekly, .ref a_isDouble, .ref a_giftDay, .ref a_giftFrom, .ref a_owed, .ref a_said, .ref a_spared, .ref a_leaveGift, .ref a_leaveFrom, .ref a_leaveTo, .ref a_lateDay, .ref a_lateOffice, .ref a_lateBy, .ref a_guests, .ref a_who, .ref a_used, .ref a_lacks, .ref a_candles, .ref a_masses, .ref a_owing, .ref a_heldOn, .ref a_waits, .ref a_tape, .ref a_text, .int v_taped, .int v_size, .int v_at, .int v_fault, .int v_rules, .ref a_statements, .ref a_taken, .ref a_sort, .ref a_first, .ref a_second, .int v_wordEnd, .int v_number])), (a_isWeekly, .inl (cZ, 40, .inl f_isWeekly)), (a_isDouble, .inl (cZ, 40, .inl f_isDouble)), (a_giftDay, .inl (cI, 40, .inl f_giftDay)), (a_giftFrom, .inl (cI, 40, .inl f_giftFrom)), (a_owed, .inl (cI, 40, .inl u.1)), (a_spared, .inl (cI, 40, .inl u.2)), (a_leaveGift, .inl (cI, 40, .inl f_leaveGift)), (a_leaveFrom, .inl (cI, 40, .inl f_leaveFrom)), (a_leaveTo, .inl (cI, 40, .inl f_leaveTo))])) (va_A [(h, .inr (11, [.int v_today, .int v_monks, .int v_aways, .int v_feasts, .int v_gifts, .int v_leaves, .int v_lates, .int v_store, .int v_allCandles, .ref a_isPriest, .ref a_bars, .ref a_joined, .ref a_turns, .ref a_awayMonk, .ref a_awayFrom, .ref a_awayTo, .ref a_feastDay, .ref a_rank, .ref a_isWeekly, .ref a_isDouble, .ref a_giftDay, .ref a_giftFrom, .ref a_owed, .ref a_said, .ref a_spared, .ref a_leaveGift, .ref a_leaveFrom, .ref a_leaveTo, .ref a_lateDay, .ref a_lateOffice, .ref a_lateBy, .ref a_guests, .ref a_who, .ref a_used, .ref a_lacks, .ref a_candles, .ref a_masses, .ref a_owing, .ref a_heldOn, .ref a_waits, .ref a_tape, .ref a_text, .int v_taped, .int v_size, .int v_at, .int v_fault, .int v_rules, .ref a_statements, .ref a_taken, .ref a_sort, .ref a_first, .ref a_second, .int v_wordEnd, .int v_number])), (a_isWeekly, .inl (cZ, 40, .inl f_isWeekly)), (a_isDouble, .inl (cZ, 40, .inl f_isDouble)), (a_giftDay, .inl (cI, 40, .inl f_giftDay)), (a_giftFrom, .inl (cI, 40, .inl f_giftFrom)), (a_owed, .inl (cI, 40, .inl f_owed)), (a_spared, .inl (cI, 40, .inl f_spared)), (a_leaveGift, .inl (cI, 40, .inl f_leaveGift)), (a_leaveFrom, .inl (cI, 40, .inl f_leaveFrom)), (a_leaveTo, .inl (cI, 40, .inl f_leaveTo))] sz)) 0 (0) (va_A [(h, .inr (11, [.int v_today, .int v_monks, .int v_aways, .int v_feasts, .int v_gifts, .int v_leaves, .int v_lates, .int v_store, .int v_allCandles, .ref a_isPriest, .ref a_bars, .ref a_joined, .ref a_turns, .ref a_awayMonk, .ref a_awayFrom, .ref a_awayTo, .ref a_feastDay, .ref a_rank, .ref a_isWeekly, .ref a_isDouble, .ref a_giftDay, .ref a_giftFrom, .ref a_owed, .ref a_said, .ref a_spared, .ref a_leaveGift, .ref a_leaveFrom, .ref a_leaveTo, .ref a_lateDay, .ref a_lateOffice, .ref a_lateBy, .ref a_guests, .ref a_who, .ref a_used, .ref a_lacks, .ref a_candles, .ref a_masses, .ref a_owing, .ref a_heldOn, .ref a_waits, .ref a_tape, .ref a_text, .int v_taped, .int v_size, .int v_at, .int v_fault, .int v_rules, .ref a_statements, .ref a_taken, .ref a_sort, .ref a_first, .ref a_second, .int v_wordEnd, .int v_number])), (a_isWeekly, .inl (cZ, 40, .inl f_isWeekly)), (a_isDouble, .inl (cZ, 40, .inl f_isDouble)), (a_giftDay, .inl (cI, 40, .inl f_giftDay)), (a_giftFrom, .inl (cI, 40, .inl f_giftFrom)), (a_owed, .inl (cI, 40, .inl f_owed)), (a_spared, .inl (cI, 40, .inl f_spared)), (a_leaveGift, .inl (cI, 40, .inl f_leaveGift)), (a_leaveFrom, .inl (cI, 40, .inl f_leaveFrom)), (a_leaveTo, .inl (cI, 40, .inl f_leaveTo))] sz) := by
  refine rw_retv (cc := cX12_owes) (maxL := 6) (own := RX12) (by decide) rfl rfl (Nat.le_of_ble_eq_true rfl) ?_
  intro p e s m args below meth c Q A S hin hret hP hK hD hA hS ls hl
  obtain ⟨hx, hb, hml, hown, hts⟩ := id S
  have hl : lv_has ls 6 [(0, .ref h), (1, .int d)] := hl
  have kk0 : (0 : Int32).toInt = 0 := by decide
  have kk1 : (1 : Int32).toInt = 1 := by decide
  have kk2 : (2 : Int32).toInt = 2 := by decide
  have kk7 : (7 : Int32).toInt = 7 := by decide
  have kk365 : (365 : Int32).toInt = 365 := by decide
  have lk0 := hts (.fieldLink RX12 137 "AbbeyHoursModel" "gifts" "I") (List.mem_cons_of_mem _ (List.mem_append_left _ (List.mem_of_getElem? (i := 0) rfl)))
  have lk1 := hts (.fieldLink RX12 47 "AbbeyHoursModel" "giftFrom" "[I") (List.mem_cons_of_mem _ (List.mem_append_left _ (List.mem_of_getElem? (i := 1) rfl)))
  have lk2 := hts (.fieldLink RX12 44 "AbbeyHoursModel" "giftDay" "[I") (List.mem_cons_of_mem _ (List.mem_append_left _ (List.mem_of_getElem? (i := 2) rfl)))
  have lk3 := hts (.fieldLink RX12 38 "AbbeyHoursModel" "isWeekly" "[Z") (List.mem_cons_of_mem _ (List.mem_append_left _ (List.mem_of_getElem? (i := 3) rfl)))
  have lk4 := hts (.fieldLink RX12 261 "AbbeyHoursModel" "leaves" "I") (List.mem_cons_of_mem _ (List.mem_append_left _ (List.mem_of_getElem? (i := 4) rfl)))
  have lk5 := hts (.fieldLink RX12 41 "AbbeyHoursModel" "isDouble" "[Z") (List.mem_cons_of_mem _ (List.mem_append_left _ (List.mem_of_getElem? (i := 8) rfl)))
  have lk6 := hts (.fieldLink RX12 50 "AbbeyHoursModel" "owed" "[I") (List.mem_cons_of_mem _ (List.mem_append_left _ (List.mem_of_getElem? (i := 10) rfl)))
  have lk7 := hts (.fieldLink RX12 56 "AbbeyHoursModel" "spared" "[I") (List.mem_cons_of_mem _ (List.mem_append_left _ (List.mem_of_getElem? (i := 9) rfl)))
  have lk8 := hts (.fieldLink RX12 59 "AbbeyHoursModel" "leaveGift" "[I") (List.mem_cons_of_mem _ (List.mem_append_left _ (List.mem_of_getElem? (i := 5) rfl)))
  have lk9 := hts (.fieldLink RX12 62 "AbbeyHoursModel" "leaveFrom" "[I") (List.mem_cons_of_mem _ (List.mem_append_left _ (List.mem_of_getElem? (i := 6) rfl)))
  have lk10 := hts (.fieldLink RX12 65 "AbbeyHoursModel" "leaveTo" "[I") (List.mem_cons_of_mem _ (List.mem_append_left _ (List.mem_of_getElem? (i := 7) rfl)))
  refine lv_iconst (v := 0) hx hb dX12_owes_0 (by decide) ?_
  refine lv_istore_n (lv' := [(2, .int 0), (0, .ref h), (1, .int d)]) hx hb dX12_owes_1 rfl hl (by decide) rfl (fun ls hl => ?_)
  have loop2 : ∀ (fuel : Nat) (j : Int32) (fo : Nat → Int32) (fs : Nat → Int32), v_gifts.toInt - j.toInt < (fuel : Int) → (0 ≤ j.toInt) → (j.toInt ≤ v_gifts.toInt) → (OweR (dueQ f_isWeekly f_giftDay d) (leaveQ f_leaveGift f_leaveFrom f_leaveTo v_leaves.toInt d) f_isDouble j.toNatClampNeg f_owed f_spared fo fs) → ∀ (H : Heap) (locs : List Loc), va_P D vwCl [(h, .inr (11, [.int v_today, .int v_monks, .int v_aways, .int v_feasts, .int v_gifts, .int v_leaves, .int v_lates, .int v_store, .int v_allCandles, .ref a_isPriest, .ref a_bars, .ref a_joined, .ref a_turns, .ref a_awayMonk, .ref a_awayFrom, .ref a_awayTo, .ref a_feastDay, .ref a_rank, .ref a_isWeekly, .ref a_isDouble, .ref a_giftDay, .ref a_giftFrom, .ref a_owed, .ref a_said, .ref a_spared, .ref a_leaveGift, .ref a_leaveFrom, .ref a_leaveTo, .ref a_lateDay, .ref a_lateOffice, .ref a_lateBy, .ref a_guests, .ref a_who, .ref a_used, .ref a_lacks, .ref a_candles, .ref a_masses, .ref a_owing, .ref a_heldOn, .ref a_waits, .ref a_tape, .ref a_text, .int v_taped, .int v_size, .int v_at, .int v_fault, .int v_rules, .ref a_statements, .ref a_taken, .ref a_sort, .ref a_first, .ref a_second, .int v_wordEnd, .int v_number])), (a_isWeekly, .inl (cZ, 40, .inl f_isWeekly)), (a_isDouble, .inl (cZ, 40, .inl f_isDouble)), (a_giftDay, .inl (cI, 40, .inl f_giftDay)), (a_giftFrom, .inl (cI, 40, .inl f_giftFrom)), (a_owed, .inl (cI, 40, .inl fo)), (a_spared, .inl (cI, 40, .inl fs)), (a_leaveGift, .inl (cI, 40, .inl f_leaveGift)), (a_leaveFrom, .inl (cI, 40, .inl f_leaveFrom)), (a_leaveTo, .inl (cI, 40, .inl f_leaveTo))] H → va_D A [(h, .inr (11, [.int v_today, .int v_monks, .int v_aways, .int v_feasts, .int v_gifts, .int v_leaves, .int v_lates, .int v_store, .int v_allCandles, .ref a_isPriest, .ref a_bars, .ref a_joined, .ref a_turns, .ref a_awayMonk, .ref a_awayFrom, .ref a_awayTo, .ref a_feastDay, .ref a_rank, .ref a_isWeekly, .ref a_isDouble, .ref a_giftDay, .ref a_giftFrom, .ref a_owed, .ref a_said, .ref a_spared, .ref a_leaveGift, .ref a_leaveFrom, .ref a_leaveTo, .ref a_lateDay, .ref a_lateOffice, .ref a_lateBy, .ref a_guests, .ref a_who, .ref a_used, .ref a_lacks, .ref a_candles, .ref a_masses, .ref a_owing, .ref a_heldOn, .ref a_waits, .ref a_tape, .ref a_text, .int v_taped, .int v_size, .int v_at, .int v_fault, .int v_rules, .ref a_statements, .ref a_taken, .ref a_sort, .ref a_first, .ref a_second, .int v_wordEnd, .int v_number])), (a_isWeekly, .inl (cZ, 40, .inl f_isWeekly)), (a_isDouble, .inl (cZ, 40, .inl f_isDouble)), (a_giftDay, .inl (cI, 40, .inl f_giftDay)), (a_giftFrom, .inl (cI, 40, .inl f_giftFrom)), (a_owed, .inl (cI, 40, .inl fo)), (a_spared, .inl (cI, 40, .inl fs)), (a_leaveGift, .inl (cI, 40, .inl f_leaveGift)), (a_leaveFrom, .inl (cI, 40, .inl f_leaveFrom)), (a_leaveTo, .inl (cI, 40, .inl f_leaveTo))] → va_S A s.heap H locs → ∀ ls : Array Slot, lv_has ls 6 [(2, .int j), (0, .ref h), (1, .int d)] → W p l e ({ frames := 1, cells := 0, slots := 0, locals := 22 } : Room) s m args below meth c H locs 0 (0) Q (F0 m 2 ls []) := by
    intro fuel
    induction fuel with
    | zero =>
      intro j fo fs hmu hj0 hj1 how H locs hP hD hS ls hl
      exfalso; omega
    | succ fuel ih2 =>
      intro j fo fs hmu hj0 hj1 how H locs hP hD hS ls hl
      refine lv_iload_n hx hb dX12_owes_2 rfl (lv_at hl 0 rfl) ?_
      refine lv_aload_n hx hb dX12_owes_3 rfl (lv_at hl 1 rfl) ?_
      refine va_get (D := D) (ci := 11) (v := .int v_gifts) (C := RX12) (T := TX12) (N := 54) hx hb hts in_e_owes_X12 hown hK.1 hP 0 rfl rfl 4 (by decide) lk0 (fun _ h9 => h9) rfl dX12_owes_4 ?_
      refine lv_icmp_ge (tgt := 180) hx hb dX12_owes_7 (by decide) (fun c_1 => ?_) (fun c_1 => ?_)
      · have tc_1 := t_le c_1
        exact hret (fo, fs) _ _ _ _ (show OweR (dueQ f_isWeekly f_giftDay d) (leaveQ f_leaveGift f_leaveFrom f_leaveTo v_leaves.toInt d) f_isDouble v_gifts.toNatClampNeg f_owed f_spared fo fs from by rw [show v_gifts = j from i32_ext (by omega)]; exact how) (hP.sub [0, 1, 2, 3, 4, 5, 6, 7, 8, 9] rfl) (hD.sub [0, 1, 2, 3, 4, 5, 6, 7, 8, 9] (by decide +kernel) rfl) hS dX12_owes_180
      · have tc_1 := t_nle c_1
        refine lv_aload_n hx hb dX12_owes_10 rfl (lv_at hl 1 rfl) ?_
        refine va_get (D := D) (ci := 11) (v := .ref a_giftFrom) (C := RX12) (T := TX12) (N := 54) hx hb hts in_e_owes_X12 hown hK.1 hP 0 rfl rfl 21 (by decide) lk1 (fun _ h9 => h9) rfl dX12_owes_11 ?_
        refine lv_iload_n hx hb dX12_owes_14 rfl (lv_at hl 0 rfl) ?_
        refine va_iald hx hb hK.1 hP 4 0 rfl rfl (t_in (by omega) (by omega)) dX12_owes_15 ?_
        refine lv_topi (fun yg eyg => ?_)
        refine lv_iload_n hx hb dX12_owes_16 rfl (lv_at hl 2 rfl) ?_
        refine lv_icmp_gt (tgt := 54) hx hb dX12_owes_17 (by decide) (fun cg => ?_) (fun cg => ?_)
        · have tcg := t_lt cg
          have hq := hgf.get (i := j) (by omega) (by omega); rw [← eyg] at hq; omega
        · have tcg := t_nlt cg
          refine lv_aload_n hx hb dX12_owes_20 rfl (lv_at hl 1 rfl) ?_
          refine va_get (D := D) (ci := 11) (v := .ref a_giftDay) (C := RX12) (T := TX12) (N := 54) hx hb hts in_e_owes_X12 hown hK.1 hP 0 rfl rfl 20 (by decide) lk2 (fun _ h9 => h9) rfl dX12_owes_21 ?_
          refine lv_iload_n hx hb dX12_owes_24 rfl (lv_at hl 0 rfl) ?_
          refine va_iald hx hb hK.1 hP 3 0 rfl rfl (t_in (by omega) (by omega)) dX12_owes_25 ?_
          refine lv_topi (fun yd eyd => ?_)
          refine lv_aload_n hx hb dX12_owes_26 rfl (lv_at hl 1 rfl) ?_
          refine va_get (D := D) (ci := 11) (v := .ref a_isWeekly) (C := RX12) (T := TX12) (N := 54) hx hb hts in_e_owes_X12 hown hK.1 hP 0 rfl rfl 18 (by decide) lk3 (fun _ h9 => h9) rfl dX12_owes_27 ?_
          refine lv_iload_n hx hb dX12_owes_30 rfl (lv_at hl 0 rfl) ?_
          refine va_zald hx hb hK.1 hP 1 1 rfl rfl (t_in (by omega) (by omega)) dX12_owes_31 ?_
          refine lv_topi (fun yw eyw => ?_)
          refine lv_if_eq (tgt := 42) hx hb dX12_owes_32 (by decide) (fun cw => ?_) (fun cw => ?_)
          · have tcw := t_eq cw
            refine lv_iload_n hx hb dX12_owes_42 rfl (lv_at hl 2 rfl) ?_
            refine lv_sipush (v := 365) hx hb dX12_owes_43 (by decide) ?_
            refine lv_irem hx hb dX12_owes_46 (by decide) ?_
            refine lv_topi (fun m3 em3 => ?_)
            refine lv_icmp_ne (tgt := 54) hx hb dX12_owes_47 (by decide) (fun cc => ?_) (fun cc => ?_)
            · have tcc := t_neq cc
              refine lv_iconst (v := 0) hx hb dX12_owes_54 (by decide) ?_
              refine lv_istore_n (lv' := [(3, .int 0), (2, .int j), (0, .ref h), (1, .int d)]) hx hb dX12_owes_55 rfl hl (by decide) rfl (fun ls hl => ?_)
              refine lv_iload_n hx hb dX12_owes_56 rfl (lv_at hl 0 rfl) ?_
              refine lv_if_ne (tgt := 63) hx hb dX12_owes_57 (by decide) (fun c_9 => ?_) (fun c_9 => ?_)
              · exact absurd c_9 (by decide)
              · have tc_9 := t_eq c_9
                refine lv_goto (tgt := 174) hx hb dX12_owes_60 (by decide) ?_
                obtain ⟨x_10, ex_10⟩ : ∃ y : Int32, y = j + 1 := ⟨_, rfl⟩
                refine lv_iinc (v := x_10) (lv' := [(2, .int x_10), (3, .int 0), (0, .ref h), (1, .int d)]) hx hb dX12_owes_174 hl (k := 1) rfl (by rw [ex_10]; rfl) (by decide) rfl (fun ls hl => ?_)
                first | have tx_10 := t_add ex_10 (by omega) (by omega) | skip
                refine lv_goto (tgt := 2) hx hb dX12_owes_177 (by decide) ?_
                exact ih2 x_10 fo fs (by omega) (by omega) (by omega) (by rw [ix1 (x := x_10) (i := j) (by omega) (by omega)]; first | exact ⟨fo, fs, how, Or.inr (Or.inl ⟨(dueQ_ix (by omega)).mpr (by unfold DueP; rw [← eyd, ← eyw]; first | (rw [if_neg cw]; exact cc.trans em7) | (rw [if_pos cw]; exact cc.trans em3)), (leaveQ_ix (by omega)).mpr (el1 hlv (by omega)), rfl, by rw [egs1, egs2, egs3]; unfold massF; rw [← eyb]; first | rw [if_pos cb] | rw [if_neg cb]⟩)⟩ | exact ⟨fo, fs, how, Or.inr (Or.inr ⟨(dueQ_ix (by omega)).mpr (by unfold DueP; rw [← eyd, ← eyw]; first | (rw [if_neg cw]; exact cc.trans em7) | (rw [if_pos cw]; exact cc.trans em3)), fun h => absurd ((leaveQ_ix (by omega)).mp h) ((fun h2 => h2 (el0 hlv (by omega)))), by rw [ego1, ego2, ego3]; unfold massF; rw [← eyb]; first | rw [if_pos cb] | rw [if_neg cb], rfl⟩)⟩ | exact ⟨fo, fs, how, Or.inl ⟨fun h => absurd ((dueQ_ix (by omega)).mp h) ((by unfold DueP; rw [← eyd, ← eyw]; first | (rw [if_neg cw]; exact fun h => cc (h.trans em7.symm)) | (rw [if_pos cw]; exact fun h => cc (h.trans em3.symm)))), rfl, rfl⟩⟩) _ _ hP hD hS ls (lv_sub hl [0, 2, 3] rfl)
            · have tcc := t_eq cc
              refine lv_iconst (v := 1) hx hb dX12_owes_50 (by decide) ?_
              refine lv_goto (tgt := 55) hx hb dX12_owes_51 (by decide) ?_
              refine lv_istore_n (lv' := [(3, .int 1), (2, .int j), (0, .ref h), (1, .int d)]) hx hb dX12_owes_55 rfl hl (by decide) rfl (fun ls hl => ?_)
              refine lv_iload_n hx hb dX12_owes_56 rfl (lv_at hl 0 rfl) ?_
              refine lv_if_ne (tgt := 63) hx hb dX12_owes_57 (by decide) (fun c_11 => ?_) (fun c_11 => ?_)
              · have tc_11 := t_neq c_11
                refine lv_iconst (v := 0) hx hb dX12_owes_63 (by decide) ?_
                refine lv_istore (lv' := [(4, .int 0), (3, .int 1), (2, .int j), (0, .ref h), (1, .int d)]) hx hb dX12_owes_64 hl (by decide) rfl (fun ls hl => ?_)
                refine lv_iconst (v := 0) hx hb dX12_owes_66 (by decide) ?_
                refine lv_istore (lv' := [(5, .int 0), (4, .int 0), (3, .int 1), (2, .int j), (0, .ref h), (1, .int d)]) hx hb dX12_owes_67 hl (by decide) rfl (fun ls hl => ?_)
                have loop69 : ∀ (fuel : Nat) (a : Int32) (q : Int32), v_leaves.toInt - q.toInt < (fuel : Int) → (0 ≤ q.toInt) → (q.toInt ≤ v_leaves.toInt) → ((a.toInt = 0 ∧ Al (fun q_ => ¬ AbsP f_leaveGift f_leaveFrom f_leaveTo j d q_) q.toInt) ∨ (a.toInt = 1 ∧ ¬ Al (fun q_ => ¬ AbsP f_leaveGift f_leaveFrom f_leaveTo j d q_) q.toInt)) → ∀ (H : Heap) (locs : List Loc), va_P D vwCl [(h, .inr (11, [.int v_today, .int v_monks, .int v_aways, .int v_feasts, .int v_gifts, .int v_leaves, .int v_lates, .int v_store, .int v_allCandles, .ref a_isPriest, .ref a_bars, .ref a_joined, .ref a_turns, .ref a_awayMonk, .ref a_awayFrom, .ref a_awayTo, .ref a_feastDay, .ref a_rank, .ref a_isWeekly, .ref a_isDouble, .ref a_giftDay, .ref a_giftFrom, .ref a_owed, .ref a_said, .ref a_spared, .ref a_leaveGift, .ref a_leaveFrom, .ref a_leaveTo, .ref a_lateDay, .ref a_lateOffice, .ref a_lateBy, .ref a_guests, .ref a_who, .ref a_used, .ref a_lacks, .ref a_candles, .ref a_masses, .ref a_owing, .ref a_heldOn, .ref a_waits, .ref a_tape, .ref a_text, .int v_taped, .int v_size, .int v_at, .int v_fault, .int v_rules, .ref a_statements, .ref a_taken, .ref a_sort, .ref a_first, .ref a_second, .int v_wordEnd, .int v_number])), (a_isWeekly, .inl (cZ, 40, .inl f_isWeekly)), (a_isDouble, .inl (cZ, 40, .inl f_isDouble)), (a_giftDay, .inl (cI, 40, .inl f_giftDay)), (a_giftFrom, .inl (cI, 40, .inl f_giftFrom)), (a_owed, .inl (cI, 40, .inl fo)), (a_spared, .inl (cI, 40, .inl fs)), (a_leaveGift, .inl (cI, 40, .inl f_leaveGift)), (a_leaveFrom, .inl (cI, 40, .inl f_leaveFrom)), (a_leaveTo, .inl (cI, 40, .inl f_leaveTo))] H → va_D A [(h, .inr (11, [.int v_today, .int v_monks, .int v_aways, .int v_feasts, .int v_gifts, .int v_leaves, .int v_lates, .int v_store, .int v_allCandles, .ref a_isPriest, .ref a_bars, .ref a_joined, .ref a_turns, .ref a_awayMonk, .ref a_awayFrom, .ref a_awayTo, .ref a_feastDay, .ref a_rank, .ref a_isWeekly, .ref a_isDouble, .ref a_giftDay, .ref a_giftFrom, .ref a_owed, .ref a_said, .ref a_spared, .ref a_leaveGift, .ref a_leaveFrom, .ref a_leaveTo, .ref a_lateDay, .ref a_lateOffice, .ref a_lateBy, .ref a_guests, .ref a_who, .ref a_used, .ref a_lacks, .ref a_candles, .ref a_masses, .ref a_owing, .ref a_heldOn, .ref a_waits, .ref a_tape, .ref a_text, .int v_taped, .int v_size, .int v_at, .int v_fault, .int v_rules, .ref a_statements, .ref a_taken, .ref a_sort, .ref a_first, .ref a_second, .int v_wordEnd, .int v_number])), (a_isWeekly, .inl (cZ, 40, .inl f_isWeekly)), (a_isDouble, .inl (cZ, 40, .inl f_isDouble)), (a_giftDay, .inl (cI, 40, .inl f_giftDay)), (a_giftFrom, .inl (cI, 40, .inl f_giftFrom)), (a_owed, .inl (cI, 40, .inl fo)), (a_spared, .inl (cI, 40, .inl fs)), (a_leaveGift, .inl (cI, 40, .inl f_leaveGift)), (a_leaveFrom, .inl (cI, 40, .inl f_leaveFrom)), (a_leaveTo, .inl (cI, 40, .inl f_leaveTo))] → va_S A s.heap H locs → ∀ ls : Array Slot, lv_has ls 6 [(5, .int q), (4, .int a), (3, .int 1), (2, .int j), (0, .ref h), (1, .int d)] → W p l e ({ frames := 1, cells := 0, slots := 0, locals := 22 } : Room) s m args below meth c H locs 0 (0) Q (F0 m 69 ls []) := by
                  intro fuel
                  induction fuel with
                  | zero =>
                    intro a q hmu hq0 hq1 ha H locs hP hD hS ls hl
                    exfalso; omega
                  | succ fuel ih69 =>
                    intro a q hmu hq0 hq1 ha H locs hP hD hS ls hl
                    have ha01 := el01 ha
                    refine lv_iload hx hb dX12_owes_69 (lv_at hl 0 rfl) ?_
                    refine lv_aload_n hx hb dX12_owes_71 rfl (lv_at hl 4 rfl) ?_
                    refine va_get (D := D) (ci := 11) (v := .int v_leaves) (C := RX12) (T := TX12) (N := 54) hx hb hts in_e_owes_X12 hown hK.1 hP 0 rfl rfl 5 (by decide) lk4 (fun _ h9 => h9) rfl dX12_owes_72 ?_
                    refine lv_icmp_ge (tgt := 128) hx hb dX12_owes_75 (by decide) (fun c_12 => ?_) (fun c_12 => ?_)
                    · have tc_12 := t_le c_12
                      refine lv_aload_n hx hb dX12_owes_128 rfl (lv_at hl 4 rfl) ?_
                      refine va_get (D := D) (ci := 11) (v := .ref a_isDouble) (C := RX12) (T := TX12) (N := 54) hx hb hts in_e_owes_X12 hown hK.1 hP 0 rfl rfl 19 (by decide) lk5 (fun _ h9 => h9) rfl dX12_owes_129 ?_
                      have hlv : (a.toInt = 0 ∧ Al (fun q_ => ¬ AbsP f_leaveGift f_leaveFrom f_leaveTo j d q_) v_leaves.toInt) ∨ (a.toInt = 1 ∧ ¬ Al (fun q_ => ¬ AbsP f_leaveGift f_leaveFrom f_leaveTo j d q_) v_leaves.toInt) := by rw [show v_leaves.toInt = q.toInt by omega]; exact ha
                      refine lv_iload_n hx hb dX12_owes_132 rfl (lv_at hl 3 rfl) ?_
                      refine va_zald hx hb hK.1 hP 2 1 rfl rfl (t_in (by omega) (by omega)) dX12_owes_133 ?_
                      refine lv_topi (fun yb eyb => ?_)
                      refine lv_if_eq (tgt := 141) hx hb dX12_owes_134 (by decide) (fun cb => ?_) (fun cb => ?_)
                      · have tcb := t_eq cb
                        refine lv_iconst (v := 1) hx hb dX12_owes_141 (by decide) ?_
                        refine lv_istore (lv' := [(5, .int 1), (4, .int a), (3, .int 1), (2, .int j), (0, .ref h), (1, .int d)]) hx hb dX12_owes_142 hl (by decide) rfl (fun ls hl => ?_)
                        refine lv_iload hx hb dX12_owes_144 (lv_at hl 1 rfl) ?_
                        refine lv_if_eq (tgt := 163) hx hb dX12_owes_146 (by decide) (fun c_15 => ?_) (fun c_15 => ?_)
                        · have tc_15 := t_eq c_15
                          refine lv_aload_n hx hb dX12_owes_163 rfl (lv_at hl 4 rfl) ?_
                          refine va_get (D := D) (ci := 11) (v := .ref a_owed) (C := RX12) (T := TX12) (N := 54) hx hb hts in_e_owes_X12 hown hK.1 hP 0 rfl rfl 22 (by decide) lk6 (fun _ h9 => h9) rfl dX12_owes_164 ?_
                          refine lv_iload_n hx hb dX12_owes_167 rfl (lv_at hl 3 rfl) ?_
                          refine lv_dup2_11 hx hb dX12_owes_168 rfl rfl ?_
                          refine va_iald hx hb hK.1 hP 5 0 rfl rfl (t_in (by omega) (by omega)) dX12_owes_169 ?_
                          refine lv_topi (fun go3 ego3 => ?_)
                          refine lv_iload hx hb dX12_owes_170 (lv_at hl 0 rfl) ?_
                          refine lv_iadd hx hb dX12_owes_172 ?_
                          refine lv_topi (fun go2 ego2 => ?_)
                          refine va_iast hx hb hK.1 hP hD hS 5 0 rfl rfl (t_in (by omega) (by omega)) dX12_owes_173 (fun H locs hP hD hS => ?_)
                          obtain ⟨go1, ego1⟩ : ∃ z : Nat → Int32, z = upd fo ((j : Int32).toNatClampNeg) go2 := ⟨_, rfl⟩
                          rw [← ego1] at hP hD
                          have hP : va_P D vwCl [(h, .inr (11, [.int v_today, .int v_monks, .int v_aways, .int v_feasts, .int v_gifts, .int v_leaves, .int v_lates, .int v_store, .int v_allCandles, .ref a_isPriest, .ref a_bars, .ref a_joined, .ref a_turns, .ref a_awayMonk, .ref a_awayFrom, .ref a_awayTo, .ref a_feastDay, .ref a_rank, .ref a_isWeekly, .ref a_isDouble, .ref a_giftDay, .ref a_giftFrom, .ref a_owed, .ref a_said, .ref a_spared, .ref a_leaveGift, .ref a_leaveFrom, .ref a_leaveTo, .ref a_lateDay, .ref a_lateOffice, .ref a_lateBy, .ref a_guests, .ref a_who, .ref a_used, .ref a_lacks, .ref a_candles, .ref a_masses, .ref a_owing, .ref a_heldOn, .ref a_waits, .ref a_tape, .ref a_text, .int v_taped, .int v_size, .int v_at, .int v_fault, .int v_rules, .ref a_statements, .ref a_taken, .ref a_sort, .ref a_first, .ref a_second, .int v_wordEnd, .int v_number])), (a_isWeekly, .inl (cZ, 40, .inl f_isWeekly)), (a_isDouble, .inl (cZ, 40, .inl f_isDouble)), (a_giftDay, .inl (cI, 40, .inl f_giftDay)), (a_giftFrom, .inl (cI, 40, .inl f_giftFrom)), (a_owed, .inl (cI, 40, .inl go1)), (a_spared, .inl (cI, 40, .inl fs)), (a_leaveGift, .inl (cI, 40, .inl f_leaveGift)), (a_leaveFrom, .inl (cI, 40, .inl f_leaveFrom)), (a_leaveTo, .inl (cI, 40, .inl f_leaveTo))] H := hP
                          have hD : va_D A [(h, .inr (11, [.int v_today, .int v_monks, .int v_aways, .int v_feasts, .int v_gifts, .int v_leaves, .int v_lates, .int v_store, .int v_allCandles, .ref a_isPriest, .ref a_bars, .ref a_joined, .ref a_turns, .ref a_awayMonk, .ref a_awayFrom, .ref a_awayTo, .ref a_feastDay, .ref a_rank, .ref a_isWeekly, .ref a_isDouble, .ref a_giftDay, .ref a_giftFrom, .ref a_owed, .ref a_said, .ref a_spared, .ref a_leaveGift, .ref a_leaveFrom, .ref a_leaveTo, .ref a_lateDay, .ref a_lateOffice, .ref a_lateBy, .ref a_guests, .ref a_who, .ref a_used, .ref a_lacks, .ref a_candles, .ref a_masses, .ref a_owing, .ref a_heldOn, .ref a_waits, .ref a_tape, .ref a_text, .int v_taped, .int v_size, .int v_at, .int v_fault, .int v_rules, .ref a_statements, .ref a_taken, .ref a_sort, .ref a_first, .ref a_second, .int v_wordEnd, .int v_number])), (a_isWeekly, .inl (cZ, 40, .inl f_isWeekly)), (a_isDouble, .inl (cZ, 40, .inl f_isDouble)), (a_giftDay, .inl (cI, 40, .inl f_giftDay)), (a_giftFrom, .inl (cI, 40, .inl f_giftFrom)), (a_owed, .inl (cI, 40, .inl go1)), (a_spared, .inl (cI, 40, .inl fs)), (a_leaveGift, .inl (cI, 40, .inl f_leaveGift)), (a_leaveFrom, .inl (cI, 40, .inl f_leaveFrom)), (a_leaveTo, .inl (cI, 40, .inl f_leaveTo))] := hD
                          obtain ⟨x_19, ex_19⟩ : ∃ y : Int32, y = j + 1 := ⟨_, rfl⟩
                          refine lv_iinc (v := x_19) (lv' := [(2, .int x_19), (5, .int 1), (4, .int a), (3, .int 1), (0, .ref h), (1, .int d)]) hx hb dX12_owes_174 hl (k := 3) rfl (by rw [ex_19]; rfl) (by decide) rfl (fun ls hl => ?_)
                          first | have tx_19 := t_add ex_19 (by omega) (by omega) | skip
                          refine lv_goto (tgt := 2) hx hb dX12_owes_177 (by decide) ?_
                          exact ih2 x_19 go1 fs (by omega) (by omega) (by omega) (by rw [ix1 (x := x_19) (i := j) (by omega) (by omega)]; first | exact ⟨fo, fs, how, Or.inr (Or.inl ⟨(dueQ_ix (by omega)).mpr (by unfold DueP; rw [← eyd, ← eyw]; first | (rw [if_neg cw]; exact cc.trans em7) | (rw [if_pos cw]; exact cc.trans em3)), (leaveQ_ix (by omega)).mpr (el1 hlv (by omega)), rfl, by rw [egs1, egs2, egs3]; unfold massF; rw [← eyb]; first | rw [if_pos cb] | rw [if_neg cb]⟩)⟩ | exact ⟨fo, fs, how, Or.inr (Or.inr ⟨(dueQ_ix (by omega)).mpr (by unfold DueP; rw [← eyd, ← eyw]; first | (rw [if_neg cw]; exact cc.trans em7) | (rw [if_pos cw]; exact cc.trans em3)), fun h => absurd ((leaveQ_ix (by omega)).mp h) ((fun h2 => h2 (el0 hlv (by omega)))), by rw [ego1, ego2, ego3]; unfold massF; rw [← eyb]; first | rw [if_pos cb] | rw [if_neg cb], rfl⟩)⟩ | exact ⟨fo, fs, how, Or.inl ⟨fun h => absurd ((dueQ_ix (by omega)).mp h) ((by unfold DueP; rw [← eyd, ← eyw]; first | (rw [if_neg cw]; exact fun h => cc (h.trans em7.symm)) | (rw [if_pos cw]; exact fun h => cc (h.trans em3.symm)))), rfl, rfl⟩⟩) _ _ hP hD hS ls (lv_sub hl [0, 4, 5] rfl)
                        · have tc_15 := t_neq c_15
                          refine lv_aload_n hx hb dX12_owes_149 rfl (lv_at hl 4 rfl) ?_
                          refine va_get (D := D) (ci := 11) (v := .ref a_spared) (C := RX12) (T := TX12) (N := 54) hx hb hts in_e_owes_X12 hown hK.1 hP 0 rfl rfl 24 (by decide) lk7 (fun _ h9 => h9) rfl dX12_owes_150 ?_
                          refine lv_iload_n hx hb dX12_owes_153 rfl (lv_at hl 3 rfl) ?_
                          refine lv_dup2_11 hx hb dX12_owes_154 rfl rfl ?_
                          refine va_iald hx hb hK.1 hP 6 0 rfl rfl (t_in (by omega) (by omega)) dX12_owes_155 ?_
                          refine lv_topi (fun gs3 egs3 => ?_)
                          refine lv_iload hx hb dX12_owes_156 (lv_at hl 0 rfl) ?_
                          refine lv_iadd hx hb dX12_owes_158 ?_
                          refine lv_topi (fun gs2 egs2 => ?_)
                          refine va_iast hx hb hK.1 hP hD hS 6 0 rfl rfl (t_in (by omega) (by omega)) dX12_owes_159 (fun H locs hP hD hS => ?_)
                          obtain ⟨gs1, egs1⟩ : ∃ z : Nat → Int32, z = upd fs ((j : Int32).toNatClampNeg) gs2 := ⟨_, rfl⟩
                          rw [← egs1] at hP hD
                          have hP : va_P D vwCl [(h, .inr (11, [.int v_today, .int v_monks, .int v_aways, .int v_feasts, .int v_gifts, .int v_leaves, .int v_lates, .int v_store, .int v_allCandles, .ref a_isPriest, .ref a_bars, .ref a_joined, .ref a_turns, .ref a_awayMonk, .ref a_awayFrom, .ref a_awayTo, .ref a_feastDay, .ref a_rank, .ref a_isWeekly, .ref a_isDouble, .ref a_giftDay, .ref a_giftFrom, .ref a_owed, .ref a_said, .ref a_spared, .ref a_leaveGift, .ref a_leaveFrom, .ref a_leaveTo, .ref a_lateDay, .ref a_lateOffice, .ref a_lateBy, .ref a_guests, .ref a_who, .ref a_used, .ref a_lacks, .ref a_candles, .ref a_masses, .ref a_owing, .ref a_heldOn, .ref a_waits, .ref a_tape, .ref a_text, .int v_taped, .int v_size, .int v_at, .int v_fault, .int v_rules, .ref a_statements, .ref a_taken, .ref a_sort, .ref a_first, .ref a_second, .int v_wordEnd, .int v_number])), (a_isWeekly, .inl (cZ, 40, .inl f_isWeekly)), (a_isDouble, .inl (cZ, 40, .inl f_isDouble)), (a_giftDay, .inl (cI, 40, .inl f_giftDay)), (a_giftFrom, .inl (cI, 40, .inl f_giftFrom)), (a_owed, .inl (cI, 40, .inl fo)), (a_spared, .inl (cI, 40, .inl gs1)), (a_leaveGift, .inl (cI, 40, .inl f_leaveGift)), (a_leaveFrom, .inl (cI, 40, .inl f_leaveFrom)), (a_leaveTo, .inl (cI, 40, .inl f_leaveTo))] H := hP
                          have hD : va_D A [(h, .inr (11, [.int v_today, .int v_monks, .int v_aways, .int v_feasts, .int v_gifts, .int v_leaves, .int v_lates, .int v_store, .int v_allCandles, .ref a_isPriest, .ref a_bars, .ref a_joined, .ref a_turns, .ref a_awayMonk, .ref a_awayFrom, .ref a_awayTo, .ref a_feastDay, .ref a_rank, .ref a_isWeekly, .ref a_isDouble, .ref a_giftDay, .ref a_giftFrom, .ref a_owed, .ref a_said, .ref a_spared, .ref a_leaveGift, .ref a_leaveFrom, .ref a_leaveTo, .ref a_lateDay, .ref a_lateOffice, .ref a_lateBy, .ref a_guests, .ref a_who, .ref a_used, .ref a_lacks, .ref a_candles, .ref a_masses, .ref a_owing, .ref a_heldOn, .ref a_waits, .ref a_tape, .ref a_text, .int v_taped, .int v_size, .int v_at, .int v_fault, .int v_rules, .ref a_statements, .ref a_taken, .ref a_sort, .ref a_first, .ref a_second, .int v_wordEnd, .int v_number])), (a_isWeekly, .inl (cZ, 40, .inl f_isWeekly)), (a_isDouble, .inl (cZ, 40, .inl f_isDouble)), (a_giftDay, .inl (cI, 40, .inl f_giftDay)), (a_giftFrom, .inl (cI, 40, .inl f_giftFrom)), (a_owed, .inl (cI, 40, .inl fo)), (a_spared, .inl (cI, 40, .inl gs1)), (a_leaveGift, .inl (cI, 40, .inl f_leaveGift)), (a_leaveFrom, .inl (cI, 40, .inl f_leaveFrom)), (a_leaveTo, .inl (cI, 40, .inl f_leaveTo))] := hD
                          refine lv_goto (tgt := 174) hx hb dX12_owes_160 (by decide) ?_
                          obtain ⟨x_23, ex_23⟩ : ∃ y : Int32, y = j + 1 := ⟨_, rfl⟩
                          refine lv_iinc (v := x_23) (lv' := [(2, .int x_23), (5, .int 1), (4, .int a), (3, .int 1), (0, .ref h), (1, .int d)]) hx hb dX12_owes_174 hl (k := 3) rfl (by rw [ex_23]; rfl) (by decide) rfl (fun ls hl => ?_)
                          first | have tx_23 := t_add ex_23 (by omega) (by omega) | skip
                          refine lv_goto (tgt := 2) hx hb dX12_owes_177 (by decide) ?_
                          exact ih2 x_23 fo gs1 (by omega) (by omega) (by omega) (by rw [ix1 (x := x_23) (i := j) (by omega) (by omega)]; first | exact ⟨fo, fs, how, Or.inr (Or.inl ⟨(dueQ_ix (by omega)).mpr (by unfold DueP; rw [← eyd, ← eyw]; first | (rw [if_neg cw]; exact cc.trans em7) | (rw [if_pos cw]; exact cc.trans em3)), (leaveQ_ix (by omega)).mpr (el1 hlv (by omega)), rfl, by rw [egs1, egs2, egs3]; unfold massF; rw [← eyb]; first | rw [if_pos cb] | rw [if_neg cb]⟩)⟩ | exact ⟨fo, fs, how, Or.inr (Or.inr ⟨(dueQ_ix (by omega)).mpr (by unfold DueP; rw [← eyd, ← eyw]; first | (rw [if_neg cw]; exact cc.trans em7) | (rw [if_pos cw]; exact cc.trans em3)), fun h => absurd ((leaveQ_ix (by omega)).mp h) ((fun h2 => h2 (el0 hlv (by omega)))), by rw [ego1, ego2, ego3]; unfold massF; rw [← eyb]; first | rw [if_pos cb] | rw [if_neg cb], rfl⟩)⟩ | exact ⟨fo, fs, how, Or.inl ⟨fun h => absurd ((dueQ_ix (by omega)).mp h) ((by unfold DueP; rw [← eyd, ← eyw]; first | (rw [if_neg cw]; exact fun h => cc (h.trans em7.symm)) | (rw [if_pos cw]; exact fun h => cc (h.trans em3.symm)))), rfl, rfl⟩⟩) _ _ hP hD hS ls (lv_sub hl [0, 4, 5] rfl)
                      · have tcb := t_neq cb
                        refine lv_iconst (v := 2) hx hb dX12_owes_137 (by decide) ?_
                        refine lv_goto (tgt := 142) hx hb dX12_owes_138 (by decide) ?_
                        refine lv_istore (lv' := [(5, .int 2), (4, .int a), (3, .int 1), (2, .int j), (0, .ref h), (1, .int d)]) hx hb dX12_owes_142 hl (by decide) rfl (fun ls hl => ?_)
                        refine lv_iload hx hb dX12_owes_144 (lv_at hl 1 rfl) ?_
                        refine lv_if_eq (tgt := 163) hx hb dX12_owes_146 (by decide) (fun c_24 => ?_) (fun c_24 => ?_)
                        · have tc_24 := t_eq c_24
                          refine lv_aload_n hx hb dX12_owes_163 rfl (lv_at hl 4 rfl) ?_
                          refine va_get (D := D) (ci := 11) (v := .ref a_owed) (C := RX12) (T := TX12) (N := 54) hx hb hts in_e_owes_X12 hown hK.1 hP 0 rfl rfl 22 (by decide) lk6 (fun _ h9 => h9) rfl dX12_owes_164 ?_
                          refine lv_iload_n hx hb dX12_owes_167 rfl (lv_at hl 3 rfl) ?_
                          refine lv_dup2_11 hx hb dX12_owes_168 rfl rfl ?_
                          refine va_iald hx hb hK.1 hP 5 0 rfl rfl (t_in (by omega) (by omega)) dX12_owes_169 ?_
                          refine lv_topi (fun go3 ego3 => ?_)
                          refine lv_iload hx hb dX12_owes_170 (lv_at hl 0 rfl) ?_
                          refine lv_iadd hx hb dX12_owes_172 ?_
                          refine lv_topi (fun go2 ego2 => ?_)
                          refine va_iast hx hb hK.1 hP hD hS 5 0 rfl rfl (t_in (by omega) (by omega)) dX12_owes_173 (fun H locs hP hD hS => ?_)
                          obtain ⟨go1, ego1⟩ : ∃ z : Nat → Int32, z = upd fo ((j : Int32).toNatClampNeg) go2 := ⟨_, rfl⟩
                          rw [← ego1] at hP hD
                          have hP : va_P D vwCl [(h, .inr (11, [.int v_today, .int v_monks, .int v_aways, .int v_feasts, .int v_gifts, .int v_leaves, .int v_lates, .int v_store, .int v_allCandles, .ref a_isPriest, .ref a_bars, .ref a_joined, .ref a_turns, .ref a_awayMonk, .ref a_awayFrom, .ref a_awayTo, .ref a_feastDay, .ref a_rank, .ref a_isWeekly, .ref a_isDouble, .ref a_giftDay, .ref a_giftFrom, .ref a_owed, .ref a_said, .ref a_spared, .ref a_leaveGift, .ref a_leaveFrom, .ref a_leaveTo, .ref a_lateDay, .ref a_lateOffice, .ref a_lateBy, .ref a_guests, .ref a_who, .ref a_used, .ref a_lacks, .ref a_candles, .ref a_masses, .ref a_owing, .ref a_heldOn, .ref a_waits, .ref a_tape, .ref a_text, .int v_taped, .int v_size, .int v_at, .int v_fault, .int v_rules, .ref a_statements, .ref a_taken, .ref a_sort, .ref a_first, .ref a_second, .int v_wordEnd, .int v_number])), (a_isWeekly, .inl (cZ, 40, .inl f_isWeekly)), (a_isDouble, .inl (cZ, 40, .inl f_isDouble)), (a_giftDay, .inl (cI, 40, .inl f_giftDay)), (a_giftFrom, .inl (cI, 40, .inl f_giftFrom)), (a_owed, .inl (cI, 40, .inl go1)), (a_spared, .inl (cI, 40, .inl fs)), (a_leaveGift, .inl (cI, 40, .inl f_leaveGift)), (a_leaveFrom, .inl (cI, 40, .inl f_leaveFrom)), (a_leaveTo, .inl (cI, 40, .inl f_leaveTo))] H := hP
                          have hD : va_D A [(h, .inr (11, [.int v_today, .int v_monks, .int v_aways, .int v_feasts, .int v_gifts, .int v_leaves, .int v_lates, .int v_store, .int v_allCandles, .ref a_isPriest, .ref a_bars, .ref a_joined, .ref a_turns, .ref a_awayMonk, .ref a_awayFrom, .ref a_awayTo, .ref a_feastDay, .ref a_rank, .ref a_isWeekly, .ref a_isDouble, .ref a_giftDay, .ref a_giftFrom, .ref a_owed, .ref a_said, .ref a_spared, .ref a_leaveGift, .ref a_leaveFrom, .ref a_leaveTo, .ref a_lateDay, .ref a_lateOffice, .ref a_lateBy, .ref a_guests, .ref a_who, .ref a_used, .ref a_lacks, .ref a_candles, .ref a_masses, .ref a_owing, .ref a_heldOn, .ref a_waits, .ref a_tape, .ref a_text, .int v_taped, .int v_size, .int v_at, .int v_fault, .int v_rules, .ref a_statements, .ref a_taken, .ref a_sort, .ref a_first, .ref a_second, .int v_wordEnd, .int v_number])), (a_isWeekly, .inl (cZ, 40, .inl f_isWeekly)), (a_isDouble, .inl (cZ, 40, .inl f_isDouble)), (a_giftDay, .inl (cI, 40, .inl f_giftDay)), (a_giftFrom, .inl (cI, 40, .inl f_giftFrom)), (a_owed, .inl (cI, 40, .inl go1)), (a_spared, .inl (cI, 40, .inl fs)), (a_leaveGift, .inl (cI, 40, .inl f_leaveGift)), (a_leaveFrom, .inl (cI, 40, .inl f_leaveFrom)), (a_leaveTo, .inl (cI, 40, .inl f_leaveTo))] := hD
                          obtain ⟨x_28, ex_28⟩ : ∃ y : Int32, y = j + 1 := ⟨_, rfl⟩
                          refine lv_iinc (v := x_28) (lv' := [(2, .int x_28), (5, .int 2), (4, .int a), (3, .int 1), (0, .ref h), (1, .int d)]) hx hb dX12_owes_174 hl (k := 3) rfl (by rw [ex_28]; rfl) (by decide) rfl (fun ls hl => ?_)
                          first | have tx_28 := t_add ex_28 (by omega) (by omega) | skip
                          refine lv_goto (tgt := 2) hx hb dX12_owes_177 (by decide) ?_
                          exact ih2 x_28 go1 fs (by omega) (by omega) (by omega) (by rw [ix1 (x := x_28) (i := j) (by omega) (by omega)]; first | exact ⟨fo, fs, how, Or.inr (Or.inl ⟨(dueQ_ix (by omega)).mpr (by unfold DueP; rw [← eyd, ← eyw]; first | (rw [if_neg cw]; exact cc.trans em7) | (rw [if_pos cw]; exact cc.trans em3)), (leaveQ_ix (by omega)).mpr (el1 hlv (by omega)), rfl, by rw [egs1, egs2, egs3]; unfold massF; rw [← eyb]; first | rw [if_pos cb] | rw [if_neg cb]⟩)⟩ | exact ⟨fo, fs, how, Or.inr (Or.inr ⟨(dueQ_ix (by omega)).mpr (by unfold DueP; rw [← eyd, ← eyw]; first | (rw [if_neg cw]; exact cc.trans em7) | (rw [if_pos cw]; exact cc.trans em3)), fun h => absurd ((leaveQ_ix (by omega)).mp h) ((fun h2 => h2 (el0 hlv (by omega)))), by rw [ego1, ego2, ego3]; unfold massF; rw [← eyb]; first | rw [if_pos cb] | rw [if_neg cb], rfl⟩)⟩ | exact ⟨fo, fs, how, Or.inl ⟨fun h => absurd ((dueQ_ix (by omega)).mp h) ((by unfold DueP; rw [← eyd, ← eyw]; first | (rw [if_neg cw]; exact fun h => cc (h.trans em7.symm)) | (rw [if_pos cw]; exact fun h => cc (h.trans em3.symm)))), rfl, rfl⟩⟩) _ _ hP hD hS ls (lv_sub hl [0, 4, 5] rfl)
                        · have tc_24 := t_neq c_24
                          refine lv_aload_n hx hb dX12_owes_149 rfl (lv_at hl 4 rfl) ?_
                          refine va_get (D := D) (ci := 11) (v := .ref a_spared) (C := RX12) (T := TX12) (N := 54) hx hb hts in_e_owes_X12 hown hK.1 hP 0 rfl rfl 24 (by decide) lk7 (fun _ h9 => h9) rfl dX12_owes_150 ?_
                          refine lv_iload_n hx hb dX12_owes_153 rfl (lv_at hl 3 rfl) ?_
                          refine lv_dup2_11 hx hb dX12_owes_154 rfl rfl ?_
                          refine va_iald hx hb hK.1 hP 6 0 rfl rfl (t_in (by omega) (by omega)) dX12_owes_155 ?_
                          refine lv_topi (fun gs3 egs3 => ?_)
                          refine lv_iload hx hb dX12_owes_156 (lv_at hl 0 rfl) ?_
                          refine lv_iadd hx hb dX12_owes_158 ?_
                          refine lv_topi (fun gs2 egs2 => ?_)
                          refine va_iast hx hb hK.1 hP hD hS 6 0 rfl rfl (t_in (by omega) (by omega)) dX12_owes_159 (fun H locs hP hD hS => ?_)
                          obtain ⟨gs1, egs1⟩ : ∃ z : Nat → Int32, z = upd fs ((j : Int32).toNatClampNeg) gs2 := ⟨_, rfl⟩
                          rw [← egs1] at hP hD
                          have hP : va_P D vwCl [(h, .inr (11, [.int v_today, .int v_monks, .int v_aways, .int v_feasts, .int v_gifts, .int v_leaves, .int v_lates, .int v_store, .int v_allCandles, .ref a_isPriest, .ref a_bars, .ref a_joined, .ref a_turns, .ref a_awayMonk, .ref a_awayFrom, .ref a_awayTo, .ref a_feastDay, .ref a_rank, .ref a_isWeekly, .ref a_isDouble, .ref a_giftDay, .ref a_giftFrom, .ref a_owed, .ref a_said, .ref a_spared, .ref a_leaveGift, .ref a_leaveFrom, .ref a_leaveTo, .ref a_lateDay, .ref a_lateOffice, .ref a_lateBy, .ref a_guests, .ref a_who, .ref a_used, .ref a_lacks, .ref a_candles, .ref a_masses, .ref a_owing, .ref a_heldOn, .ref a_waits, .ref a_tape, .ref a_text, .int v_taped, .int v_size, .int v_at, .int v_fault, .int v_rules, .ref a_statements, .ref a_taken, .ref a_sort, .ref a_first, .ref a_second, .int v_wordEnd, .int v_number])), (a_isWeekly, .inl (cZ, 40, .inl f_isWeekly)), (a_isDouble, .inl (cZ, 40, .inl f_isDouble)), (a_giftDay, .inl (cI, 40, .inl f_giftDay)), (a_giftFrom, .inl (cI, 40, .inl f_giftFrom)), (a_owed, .inl (cI, 40, .inl fo)), (a_spared, .inl (cI, 40, .inl gs1)), (a_leaveGift, .inl (cI, 40, .inl f_leaveGift)), (a_leaveFrom, .inl (cI, 40, .inl f_leaveFrom)), (a_leaveTo, .inl (cI, 40, .inl f_leaveTo))] H := hP
                          have hD : va_D A [(h, .inr (11, [.int v_today, .int v_monks, .int v_aways, .int v_feasts, .int v_gifts, .int v_leaves, .int v_lates, .int v_store, .int v_allCandles, .ref a_isPriest, .ref a_bars, .ref a_joined, .ref a_turns, .ref a_awayMonk, .ref a_awayFrom, .ref a_awayTo, .ref a_feastDay, .ref a_rank, .ref a_isWeekly, .ref a_isDouble, .ref a_giftDay, .ref a_giftFrom, .ref a_owed, .ref a_said, .ref a_spared, .ref a_leaveGift, .ref a_leaveFrom, .ref a_leaveTo, .ref a_lateDay, .ref a_lateOffice, .ref a_lateBy, .ref a_guests, .ref a_who, .ref a_used, .ref a_lacks, .ref a_candles, .ref a_masses, .ref a_owing, .ref a_heldOn, .ref a_waits, .ref a_tape, .ref a_text, .int v_taped, .int v_size, .int v_at, .int v_fault, .int v_rules, .ref a_statements, .ref a_taken, .ref a_sort, .ref a_first, .ref a_second, .int v_wordEnd, .int v_number])), (a_isWeekly, .inl (cZ, 40, .inl f_isWeekly)), (a_isDouble, .inl (cZ, 40, .inl f_isDouble)), (a_giftDay, .inl (cI, 40, .inl f_giftDay)), (a_giftFrom, .inl (cI, 40, .inl f_giftFrom)), (a_owed, .inl (cI, 40, .inl fo)), (a_spared, .inl (cI, 40, .inl gs1)), (a_leaveGift, .inl (cI, 40, .inl f_leaveGift)), (a_leaveFrom, .inl (cI, 40, .inl f_leaveFrom)), (a_leaveTo, .inl (cI, 40, .inl f_leaveTo))] := hD
                          refine lv_goto (tgt := 174) hx hb dX12_owes_160 (by decide) ?_
                          obtain ⟨x_32, ex_32⟩ : ∃ y : Int32, y = j + 1 := ⟨_, rfl⟩
                          refine lv_iinc (v := x_32) (lv' := [(2, .int x_32), (5, .int 2), (4, .int a), (3, .int 1), (0, .ref h), (1, .int d)]) hx hb dX12_owes_174 hl (k := 3) rfl (by rw [ex_32]; rfl) (by decide) rfl (fun ls hl => ?_)
                          first | have tx_32 := t_add ex_32 (by omega) (by omega) | skip
                          refine lv_goto (tgt := 2) hx hb dX12_owes_177 (by decide) ?_
                          exact ih2 x_32 fo gs1 (by omega) (by omega) (by omega) (by rw [ix1 (x := x_32) (i := j) (by omega) (by omega)]; first | exact ⟨fo, fs, how, Or.inr (Or.inl ⟨(dueQ_ix (by omega)).mpr (by unfold DueP; rw [← eyd, ← eyw]; first | (rw [if_neg cw]; exact cc.trans em7) | (rw [if_pos cw]; exact cc.trans em3)), (leaveQ_ix (by omega)).mpr (el1 hlv (by omega)), rfl, by rw [egs1, egs2, egs3]; unfold massF; rw [← eyb]; first | rw [if_pos cb] | rw [if_neg cb]⟩)⟩ | exact ⟨fo, fs, how, Or.inr (Or.inr ⟨(dueQ_ix (by omega)).mpr (by unfold DueP; rw [← eyd, ← eyw]; first | (rw [if_neg cw]; exact cc.trans em7) | (rw [if_pos cw]; exact cc.trans em3)), fun h => absurd ((leaveQ_ix (by omega)).mp h) ((fun h2 => h2 (el0 hlv (by omega)))), by rw [ego1, ego2, ego3]; unfold massF; rw [← eyb]; first | rw [if_pos cb] | rw [if_neg cb], rfl⟩)⟩ | exact ⟨fo, fs, how, Or.inl ⟨fun h => absurd ((dueQ_ix (by omega)).mp h) ((by unfold DueP; rw [← eyd, ← eyw]; first | (rw [if_neg cw]; exact fun h => cc (h.trans em7.symm)) | (rw [if_pos cw]; exact fun h => cc (h.trans em3.symm)))), rfl, rfl⟩⟩) _ _ hP hD hS ls (lv_sub hl [0, 4, 5] rfl)
                    · have tc_12 := t_nle c_12
                      refine lv_iload hx hb dX12_owes_78 (lv_at hl 1 rfl) ?_
                      refine lv_if_ne (tgt := 115) hx hb dX12_owes_80 (by decide) (fun c_33 => ?_) (fun c_33 => ?_)
                      · have tc_33 := t_neq c_33
                        refine lv_iconst (v := 1) hx hb dX12_owes_115 (by decide) ?_
                        refine lv_goto (tgt := 120) hx hb dX12_owes_116 (by decide) ?_
                        refine lv_istore (lv' := [(4, .int 1), (5, .int q), (3, .int 1), (2, .int j), (0, .ref h), (1, .int d)]) hx hb dX12_owes_120 hl (by decide) rfl (fun ls hl => ?_)
                        obtain ⟨x_34, ex_34⟩ : ∃ y : Int32, y = q + 1 := ⟨_, rfl⟩
                        refine lv_iinc (v := x_34) (lv' := [(5, .int x_34), (4, .int 1), (3, .int 1), (2, .int j), (0, .ref h), (1, .int d)]) hx hb dX12_owes_122 hl (k := 1) rfl (by rw [ex_34]; rfl) (by decide) rfl (fun ls hl => ?_)
                        first | have tx_34 := t_add ex_34 (by omega) (by omega) | skip
                        refine lv_goto (tgt := 69) hx hb dX12_owes_125 (by decide) ?_
                        exact ih69 1 x_34 (by omega) (by omega) (by omega) (by first | exact Or.inl ⟨by omega, (el0 ha (by omega)).up (i := q) (by omega) (fun h => by have h1 := h.1; have h2 := h.2; rw [← eya] at h1; first | (have := t_eq h1; omega) | (rw [← eyf, ← eyt] at h2; omega)) (by omega)⟩ | exact Or.inr ⟨by omega, fun h => el1 ha (by omega) (h.to (by omega))⟩ | exact Or.inr ⟨by omega, Al.no (i := q) (by omega) (by omega) (fun h => h ⟨by rw [← eya]; exact i32_ext (by omega), by rw [← eyf]; omega, by rw [← eyt]; omega⟩)⟩) _ _ hP hD hS ls (lv_sub hl [0, 1, 2, 3, 4, 5] rfl)
                      · have tc_33 := t_eq c_33
                        refine lv_aload_n hx hb dX12_owes_83 rfl (lv_at hl 4 rfl) ?_
                        refine va_get (D := D) (ci := 11) (v := .ref a_leaveGift) (C := RX12) (T := TX12) (N := 54) hx hb hts in_e_owes_X12 hown hK.1 hP 0 rfl rfl 25 (by decide) lk8 (fun _ h9 => h9) rfl dX12_owes_84 ?_
                        refine lv_iload hx hb dX12_owes_87 (lv_at hl 0 rfl) ?_
                        refine va_iald hx hb hK.1 hP 7 0 rfl rfl (t_in (by omega) (by omega)) dX12_owes_89 ?_
                        refine lv_topi (fun ya eya => ?_)
                        refine lv_iload_n hx hb dX12_owes_90 rfl (lv_at hl 3 rfl) ?_
                        refine lv_icmp_ne (tgt := 119) hx hb dX12_owes_91 (by decide) (fun c_36 => ?_) (fun c_36 => ?_)
                        · have tc_36 := t_neq c_36
                          refine lv_iconst (v := 0) hx hb dX12_owes_119 (by decide) ?_
                          refine lv_istore (lv' := [(4, .int 0), (5, .int q), (3, .int 1), (2, .int j), (0, .ref h), (1, .int d)]) hx hb dX12_owes_120 hl (by decide) rfl (fun ls hl => ?_)
                          obtain ⟨x_37, ex_37⟩ : ∃ y : Int32, y = q + 1 := ⟨_, rfl⟩
                          refine lv_iinc (v := x_37) (lv' := [(5, .int x_37), (4, .int 0), (3, .int 1), (2, .int j), (0, .ref h), (1, .int d)]) hx hb dX12_owes_122 hl (k := 1) rfl (by rw [ex_37]; rfl) (by decide) rfl (fun ls hl => ?_)
                          first | have tx_37 := t_add ex_37 (by omega) (by omega) | skip
                          refine lv_goto (tgt := 69) hx hb dX12_owes_125 (by decide) ?_
                          exact ih69 0 x_37 (by omega) (by omega) (by omega) (by first | exact Or.inl ⟨by omega, (el0 ha (by omega)).up (i := q) (by omega) (fun h => by have h1 := h.1; have h2 := h.2; rw [← eya] at h1; first | (have := t_eq h1; omega) | (rw [← eyf, ← eyt] at h2; omega)) (by omega)⟩ | exact Or.inr ⟨by omega, fun h => el1 ha (by omega) (h.to (by omega))⟩ | exact Or.inr ⟨by omega, Al.no (i := q) (by omega) (by omega) (fun h => h ⟨by rw [← eya]; exact i32_ext (by omega), by rw [← eyf]; omega, by rw [← eyt]; omega⟩)⟩) _ _ hP hD hS ls (lv_sub hl [0, 1, 2, 3, 4, 5] rfl)
                        · have tc_36 := t_eq c_36
                          refine lv_iload_n hx hb dX12_owes_94 rfl (lv_at hl 5 rfl) ?_
                          refine lv_aload_n hx hb dX12_owes_95 rfl (lv_at hl 4 rfl) ?_
                          refine va_get (D := D) (ci := 11) (v := .ref a_leaveFrom) (C := RX12) (T := TX12) (N := 54) hx hb hts in_e_owes_X12 hown hK.1 hP 0 rfl rfl 26 (by decide) lk9 (fun _ h9 => h9) rfl dX12_owes_96 ?_
                          refine lv_iload hx hb dX12_owes_99 (lv_at hl 0 rfl) ?_
                          refine va_iald hx hb hK.1 hP 8 0 rfl rfl (t_in (by omega) (by omega)) dX12_owes_101 ?_
                          refine lv_topi (fun yf eyf => ?_)
                          refine lv_aload_n hx hb dX12_owes_102 rfl (lv_at hl 4 rfl) ?_
                          refine va_get (D := D) (ci := 11) (v := .ref a_leaveTo) (C := RX12) (T := TX12) (N := 54) hx hb hts in_e_owes_X12 hown hK.1 hP 0 rfl rfl 27 (by decide) lk10 (fun _ h9 => h9) rfl dX12_owes_103 ?_
                          refine lv_iload hx hb dX12_owes_106 (lv_at hl 0 rfl) ?_
                          refine va_iald hx hb hK.1 hP 9 0 rfl rfl (t_in (by omega) (by omega)) dX12_owes_108 ?_
                          refine lv_topi (fun yt eyt => ?_)
                          have hPc := hP.sub (ws' := []) [] rfl
                          refine roS (As := [.int d, .int yf, .int yt]) (rest := []) S (m_isIn  ) (va_cwS 3 hts gX12_owes_X12_isIn rfl rfl rfl hd_X12_isIn ⟨Nat.le_of_ble_eq_true rfl, Nat.le_of_ble_eq_true rfl⟩) hK hPc rfl hl.1 rfl (Nat.le_of_ble_eq_true rfl) dX12_owes_109 ⟨Nat.le_of_ble_eq_true rfl, Nat.le_of_ble_eq_true rfl⟩ (fun r_40 hw_40 => ?_)
                          have hw_40 : (r_40.toInt = 1 ∧ yf.toInt ≤ d.toInt ∧ d.toInt ≤ yt.toInt) ∨ (r_40.toInt = 0 ∧ (d.toInt < yf.toInt ∨ yt.toInt < d.toInt)) := hw_40
                          refine lv_if_eq (tgt := 119) hx hb dX12_owes_112 (by decide) (fun c_41 => ?_) (fun c_41 => ?_)
                          · have tc_41 := t_eq c_41
                            refine lv_iconst (v := 0) hx hb dX12_owes_119 (by decide) ?_
                            refine lv_istore (lv' := [(4, .int 0), (5, .int q), (3, .int 1), (2, .int j), (0, .ref h), (1, .int d)]) hx hb dX12_owes_120 hl (by decide) rfl (fun ls hl => ?_)
                            obtain ⟨x_42, ex_42⟩ : ∃ y : Int32, y = q + 1 := ⟨_, rfl⟩
                            refine lv_iinc (v := x_42) (lv' := [(5, .int x_42), (4, .int 0), (3, .int 1), (2, .int j), (0, .ref h), (1, .int d)]) hx hb dX12_owes_122 hl (k := 1) rfl (by rw [ex_42]; rfl) (by decide) rfl (fun ls hl => ?_)
                            first | have tx_42 := t_add ex_42 (by omega) (by omega) | skip
                            refine lv_goto (tgt := 69) hx hb dX12_owes_125 (by decide) ?_
                            exact ih69 0 x_42 (by omega) (by omega) (by omega) (by first | exact Or.inl ⟨by omega, (el0 ha (by omega)).up (i := q) (by omega) (fun h => by have h1 := h.1; have h2 := h.2; rw [← eya] at h1; first | (have := t_eq h1; omega) | (rw [← eyf, ← eyt] at h2; omega)) (by omega)⟩ | exact Or.inr ⟨by omega, fun h => el1 ha (by omega) (h.to (by omega))⟩ | exact Or.inr ⟨by omega, Al.no (i := q) (by omega) (by omega) (fun h => h ⟨by rw [← eya]; exact i32_ext (by omega), by rw [← eyf]; omega, by rw [← eyt]; omega⟩)⟩) _ _ hP hD hS ls (lv_sub hl [0, 1, 2, 3, 4, 5] rfl)
                          · have tc_41 := t_neq c_41
                            refine lv_iconst (v := 1) hx hb dX12_owes_115 (by decide) ?_
                            refine lv_goto (tgt := 120) hx hb dX12_owes_116 (by decide) ?_
                            refine lv_istore (lv' := [(4, .int 1), (5, .int q), (3, .int 1), (2, .int j), (0, .ref h), (1, .int d)]) hx hb dX12_owes_120 hl (by decide) rfl (fun ls hl => ?_)
                            obtain ⟨x_43, ex_43⟩ : ∃ y : Int32, y = q + 1 := ⟨_, rfl⟩
                            refine lv_iinc (v := x_43) (lv' := [(5, .int x_43), (4, .int 1), (3, .int 1), (2, .int j), (0, .ref h), (1, .int d)]) hx hb dX12_owes_122 hl (k := 1) rfl (by rw [ex_43]; rfl) (by decide) rfl (fun ls hl => ?_)
                            first | have tx_43 := t_add ex_43 (by omega) (by omega) | skip
                            refine lv_goto (tgt := 69) hx hb dX12_owes_125 (by decide) ?_
                            exact ih69 1 x_43 (by omega) (by omega) (by omega) (by first | exact Or.inl ⟨by omega, (el0 ha (by omega)).up (i := q) (by omega) (fun h => by have h1 := h.1; have h2 := h.2; rw [← eya] at h1; first | (have := t_eq h1; omega) | (rw [← eyf, ← eyt] at h2; omega)) (by omega)⟩ | exact Or.inr ⟨by omega, fun h => el1 ha (by omega) (h.to (by omega))⟩ | exact Or.inr ⟨by omega, Al.no (i := q) (by omega) (by omega) (fun h => h ⟨by rw [← eya]; exact i32_ext (by omega), by rw [← eyf]; omega, by rw [← eyt]; omega⟩)⟩) _ _ hP hD hS ls (lv_sub hl [0, 1, 2, 3, 4, 5] rfl)
                exact loop69 ((v_leaves.toInt - (0 : Int32).toInt).toNat + 1) 0 0 (by omega) (by omega) (by omega) (Or.inl ⟨by omega, Al.zero (by omega)⟩) _ _ hP hD hS ls (lv_sub hl [0, 1, 2, 3, 4, 5] rfl)
              · exact absurd c_11 (by decide)
          · have tcw := t_neq cw
            refine lv_iload_n hx hb dX12_owes_35 rfl (lv_at hl 2 rfl) ?_
            refine lv_bipush (v := 7) hx hb dX12_owes_36 (by decide) ?_
            refine lv_irem hx hb dX12_owes_38 (by decide) ?_
            refine lv_topi (fun m7 em7 => ?_)
            refine lv_goto (tgt := 47) hx hb dX12_owes_39 (by decide) ?_
            refine lv_icmp_ne (tgt := 54) hx hb dX12_owes_47 (by decide) (fun cc => ?_) (fun cc => ?_)
            · have tcc := t_neq cc
              refine lv_iconst (v := 0) hx hb dX12_owes_54 (by decide) ?_
              refine lv_istore_n (lv' := [(3, .int 0), (2, .int j), (0, .ref h), (1, .int d)]) hx hb dX12_owes_55 rfl hl (by decide) rfl (fun ls hl => ?_)
              refine lv_iload_n hx hb dX12_owes_56 rfl (lv_at hl 0 rfl) ?_
              refine lv_if_ne (tgt := 63) hx hb dX12_owes_57 (by decide) (fun c_46 => ?_) (fun c_46 => ?_)
              · exact absurd c_46 (by decide)
              · have tc_46 := t_eq c_46
                refine lv_goto (tgt := 174) hx hb dX12_owes_60 (by decide) ?_
                obtain ⟨x_47, ex_47⟩ : ∃ y : Int32, y = j + 1 := ⟨_, rfl⟩
                refine lv_iinc (v := x_47) (lv' := [(2, .int x_47), (3, .int 0), (0, .ref h), (1, .int d)]) hx hb dX12_owes_174 hl (k := 1) rfl (by rw [ex_47]; rfl) (by decide) rfl (fun ls hl => ?_)
                first | have tx_47 := t_add ex_47 (by omega) (by omega) | skip
                refine lv_goto (tgt := 2) hx hb dX12_owes_177 (by decide) ?_
                exact ih2 x_47 fo fs (by omega) (by omega) (by omega) (by rw [ix1 (x := x_47) (i := j) (by omega) (by omega)]; first | exact ⟨fo, fs, how, Or.inr (Or.inl ⟨(dueQ_ix (by omega)).mpr (by unfold DueP; rw [← eyd, ← eyw]; first | (rw [if_neg cw]; exact cc.trans em7) | (rw [if_pos cw]; exact cc.trans em3)), (leaveQ_ix (by omega)).mpr (el1 hlv (by omega)), rfl, by rw [egs1, egs2, egs3]; unfold massF; rw [← eyb]; first | rw [if_pos cb] | rw [if_neg cb]⟩)⟩ | exact ⟨fo, fs, how, Or.inr (Or.inr ⟨(dueQ_ix (by omega)).mpr (by unfold DueP; rw [← eyd, ← eyw]; first | (rw [if_neg cw]; exact cc.trans em7) | (rw [if_pos cw]; exact cc.trans em3)), fun h => absurd ((leaveQ_ix (by omega)).mp h) ((fun h2 => h2 (el0 hlv (by omega)))), by rw [ego1, ego2, ego3]; unfold massF; rw [← eyb]; first | rw [if_pos cb] | rw [if_neg cb], rfl⟩)⟩ | exact ⟨fo, fs, how, Or.inl ⟨fun h => absurd ((dueQ_ix (by omega)).mp h) ((by unfold DueP; rw [← eyd, ← eyw]; first | (rw [if_neg cw]; exact fun h => cc (h.trans em7.symm)) | (rw [if_pos cw]; exact fun h => cc (h.trans em3.symm)))), rfl, rfl⟩⟩) _ _ hP hD hS ls (lv_sub hl [0, 2, 3] rfl)
            · have tcc := t_eq cc
              refine lv_iconst (v := 1) hx hb dX12_owes_50 (by decide) ?_
              refine lv_goto (tgt := 55) hx hb dX12_owes_51 (by decide) ?_
              refine lv_istore_n (lv' := [(3, .int 1), (2, .int j), (0, .ref h), (1, .int d)]) hx hb dX12_owes_55 rfl hl (by decide) rfl (fun ls hl => ?_)
              refine lv_iload_n hx hb dX12_owes_56 rfl (lv_at hl 0 rfl) ?_
              refine lv_if_ne (tgt := 63) hx hb dX12_owes_57 (by decide) (fun c_48 => ?_) (fun c_48 => ?_)
              · have tc_48 := t_neq c_48
                refine lv_iconst (v := 0) hx hb dX12_owes_63 (by decide) ?_
                refine lv_istore (lv' := [(4, .int 0), (3, .int 1), (2, .int j), (0, .ref h), (1, .int d)]) hx hb dX12_owes_64 hl (by decide) rfl (fun ls hl => ?_)
                refine lv_iconst (v := 0) hx hb dX12_owes_66 (by decide) ?_
                refine lv_istore (lv' := [(5, .int 0), (4, .int 0), (3, .int 1), (2, .int j), (0, .ref h), (1, .int d)]) hx hb dX12_owes_67 hl (by decide) rfl (fun ls hl => ?_)
                have loop69 : ∀ (fuel : Nat) (a : Int32) (q : Int32), v_leaves.toInt - q.toInt < (fuel : Int) → (0 ≤ q.toInt) → (q.toInt ≤ v_leaves.toInt) → ((a.toInt = 0 ∧ Al (fun q_ => ¬ AbsP f_leaveGift f_leaveFrom f_leaveTo j d q_) q.toInt) ∨ (a.toInt = 1 ∧ ¬ Al (fun q_ => ¬ AbsP f_leaveGift f_leaveFrom f_leaveTo j d q_) q.toInt)) → ∀ (H : Heap) (locs : List Loc), va_P D vwCl [(h, .inr (11, [.int v_today, .int v_monks, .int v_aways, .int v_feasts, .int v_gifts, .int v_leaves, .int v_lates, .int v_store, .int v_allCandles, .ref a_isPriest, .ref a_bars, .ref a_joined, .ref a_turns, .ref a_awayMonk, .ref a_awayFrom, .ref a_awayTo, .ref a_feastDay, .ref a_rank, .ref a_isWeekly, .ref a_isDouble, .ref a_giftDay, .ref a_giftFrom, .ref a_owed, .ref a_said, .ref a_spared, .ref a_leaveGift, .ref a_leaveFrom, .ref a_leaveTo, .ref a_lateDay, .ref a_lateOffice, .ref a_lateBy, .ref a_guests, .ref a_who, .ref a_used, .ref a_lacks, .ref a_candles, .ref a_masses, .ref a_owing, .ref a_heldOn, .ref a_waits, .ref a_tape, .ref a_text, .int v_taped, .int v_size, .int v_at, .int v_fault, .int v_rules, .ref a_statements, .ref a_taken, .ref a_sort, .ref a_first, .ref a_second, .int v_wordEnd, .int v_number])), (a_isWeekly, .inl (cZ, 40, .inl f_isWeekly)), (a_isDouble, .inl (cZ, 40, .inl f_isDouble)), (a_giftDay, .inl (cI, 40, .inl f_giftDay)), (a_giftFrom, .inl (cI, 40, .inl f_giftFrom)), (a_owed, .inl (cI, 40, .inl fo)), (a_spared, .inl (cI, 40, .inl fs)), (a_leaveGift, .inl (cI, 40, .inl f_leaveGift)), (a_leaveFrom, .inl (cI, 40, .inl f_leaveFrom)), (a_leaveTo, .inl (cI, 40, .inl f_leaveTo))] H → va_D A [(h, .inr (11, [.int v_today, .int v_monks, .int v_aways, .int v_feasts, .int v_gifts, .int v_leaves, .int v_lates, .int v_store, .int v_allCandles, .ref a_isPriest, .ref a_bars, .ref a_joined, .ref a_turns, .ref a_awayMonk, .ref a_awayFrom, .ref a_awayTo, .ref a_feastDay, .ref a_rank, .ref a_isWeekly, .ref a_isDouble, .ref a_giftDay, .ref a_giftFrom, .ref a_owed, .ref a_said, .ref a_spared, .ref a_leaveGift, .ref a_leaveFrom, .ref a_leaveTo, .ref a_lateDay, .ref a_lateOffice, .ref a_lateBy, .ref a_guests, .ref a_who, .ref a_used, .ref a_lacks, .ref a_candles, .ref a_masses, .ref a_owing, .ref a_heldOn, .ref a_waits, .ref a_tape, .ref a_text, .int v_taped, .int v_size, .int v_at, .int v_fault, .int v_rules, .ref a_statements, .ref a_taken, .ref a_sort, .ref a_first, .ref a_second, .int v_wordEnd, .int v_number])), (a_isWeekly, .inl (cZ, 40, .inl f_isWeekly)), (a_isDouble, .inl (cZ, 40, .inl f_isDouble)), (a_giftDay, .inl (cI, 40, .inl f_giftDay)), (a_giftFrom, .inl (cI, 40, .inl f_giftFrom)), (a_owed, .inl (cI, 40, .inl fo)), (a_spared, .inl (cI, 40, .inl fs)), (a_leaveGift, .inl (cI, 40, .inl f_leaveGift)), (a_leaveFrom, .inl (cI, 40, .inl f_leaveFrom)), (a_leaveTo, .inl (cI, 40, .inl f_leaveTo))] → va_S A s.heap H locs → ∀ ls : Array Slot, lv_has ls 6 [(5, .int q), (4, .int a), (3, .int 1), (2, .int j), (0, .ref h), (1, .int d)] → W p l e ({ frames := 1, cells := 0, slots := 0, locals := 22 } : Room) s m args below meth c H locs 0 (0) Q (F0 m 69 ls []) := by
                  intro fuel
                  induction fuel with
                  | zero =>
                    intro a q hmu hq0 hq1 ha H locs hP hD hS ls hl
                    exfalso; omega
                  | succ fuel ih69 =>
                    intro a q hmu hq0 hq1 ha H locs hP hD hS ls hl
                    have ha01 := el01 ha
                    refine lv_iload hx hb dX12_owes_69 (lv_at hl 0 rfl) ?_
                    refine lv_aload_n hx hb dX12_owes_71 rfl (lv_at hl 4 rfl) ?_
                    refine va_get (D := D) (ci := 11) (v := .int v_leaves) (C := RX12) (T := TX12) (N := 54) hx hb hts in_e_owes_X12 hown hK.1 hP 0 rfl rfl 5 (by decide) lk4 (fun _ h9 => h9) rfl dX12_owes_72 ?_
                    refine lv_icmp_ge (tgt := 128) hx hb dX12_owes_75 (by decide) (fun c_49 => ?_) (fun c_49 => ?_)
                    · have tc_49 := t_le c_49
                      refine lv_aload_n hx hb dX12_owes_128 rfl (lv_at hl 4 rfl) ?_
                      refine va_get (D := D) (ci := 11) (v := .ref a_isDouble) (C := RX12) (T := TX12) (N := 54) hx hb hts in_e_owes_X12 hown hK.1 hP 0 rfl rfl 19 (by decide) lk5 (fun _ h9 => h9) rfl dX12_owes_129 ?_
                      have hlv : (a.toInt = 0 ∧ Al (fun q_ => ¬ AbsP f_leaveGift f_leaveFrom f_leaveTo j d q_) v_leaves.toInt) ∨ (a.toInt = 1 ∧ ¬ Al (fun q_ => ¬ AbsP f_leaveGift f_leaveFrom f_leaveTo j d q_) v_leaves.toInt) := by rw [show v_leaves.toInt = q.toInt by omega]; exact ha
                      refine lv_iload_n hx hb dX12_owes_132 rfl (lv_at hl 3 rfl) ?_
                      refine va_zald hx hb hK.1 hP 2 1 rfl rfl (t_in (by omega) (by omega)) dX12_owes_133 ?_
                      refine lv_topi (fun yb eyb => ?_)
                      refine lv_if_eq (tgt := 141) hx hb dX12_owes_134 (by decide) (fun cb => ?_) (fun cb => ?_)
                      · have tcb := t_eq cb
                        refine lv_iconst (v := 1) hx hb dX12_owes_141 (by decide) ?_
                        refine lv_istore (lv' := [(5, .int 1), (4, .int a), (3, .int 1), (2, .int j), (0, .ref h), (1, .int d)]) hx hb dX12_owes_142 hl (by decide) rfl (fun ls hl => ?_)
                        refine lv_iload hx hb dX12_owes_144 (lv_at hl 1 rfl) ?_
                        refine lv_if_eq (tgt := 163) hx hb dX12_owes_146 (by decide) (fun c_52 => ?_) (fun c_52 => ?_)
                        · have tc_52 := t_eq c_52
                          refine lv_aload_n hx hb dX12_owes_163 rfl (lv_at hl 4 rfl) ?_
                          refine va_get (D := D) (ci := 11) (v := .ref a_owed) (C := RX12) (T := TX12) (N := 54) hx hb hts in_e_owes_X12 hown hK.1 hP 0 rfl rfl 22 (by decide) lk6 (fun _ h9 => h9) rfl dX12_owes_164 ?_
                          refine lv_iload_n hx hb dX12_owes_167 rfl (lv_at hl 3 rfl) ?_
                          refine lv_dup2_11 hx hb dX12_owes_168 rfl rfl ?_
                          refine va_iald hx hb hK.1 hP 5 0 rfl rfl (t_in (by omega) (by omega)) dX12_owes_169 ?_
                          refine lv_topi (fun go3 ego3 => ?_)
                          refine lv_iload hx hb dX12_owes_170 (lv_at hl 0 rfl) ?_
                          refine lv_iadd hx hb dX12_owes_172 ?_
                          refine lv_topi (fun go2 ego2 => ?_)
                          refine va_iast hx hb hK.1 hP hD hS 5 0 rfl rfl (t_in (by omega) (by omega)) dX12_owes_173 (fun H locs hP hD hS => ?_)
                          obtain ⟨go1, ego1⟩ : ∃ z : Nat → Int32, z = upd fo ((j : Int32).toNatClampNeg) go2 := ⟨_, rfl⟩
                          rw [← ego1] at hP hD
                          have hP : va_P D vwCl [(h, .inr (11, [.int v_today, .int v_monks, .int v_aways, .int v_feasts, .int v_gifts, .int v_leaves, .int v_lates, .int v_store, .int v_allCandles, .ref a_isPriest, .ref a_bars, .ref a_joined, .ref a_turns, .ref a_awayMonk, .ref a_awayFrom, .ref a_awayTo, .ref a_feastDay, .ref a_rank, .ref a_isWeekly, .ref a_isDouble, .ref a_giftDay, .ref a_giftFrom, .ref a_owed, .ref a_said, .ref a_spared, .ref a_leaveGift, .ref a_leaveFrom, .ref a_leaveTo, .ref a_lateDay, .ref a_lateOffice, .ref a_lateBy, .ref a_guests, .ref a_who, .ref a_used, .ref a_lacks, .ref a_candles, .ref a_masses, .ref a_owing, .ref a_heldOn, .ref a_waits, .ref a_tape, .ref a_text, .int v_taped, .int v_size, .int v_at, .int v_fault, .int v_rules, .ref a_statements, .ref a_taken, .ref a_sort, .ref a_first, .ref a_second, .int v_wordEnd, .int v_number])), (a_isWeekly, .inl (cZ, 40, .inl f_isWeekly)), (a_isDouble, .inl (cZ, 40, .inl f_isDouble)), (a_giftDay, .inl (cI, 40, .inl f_giftDay)), (a_giftFrom, .inl (cI, 40, .inl f_giftFrom)), (a_owed, .inl (cI, 40, .inl go1)), (a_spared, .inl (cI, 40, .inl fs)), (a_leaveGift, .inl (cI, 40, .inl f_leaveGift)), (a_leaveFrom, .inl (cI, 40, .inl f_leaveFrom)), (a_leaveTo, .inl (cI, 40, .inl f_leaveTo))] H := hP
                          have hD : va_D A [(h, .inr (11, [.int v_today, .int v_monks, .int v_aways, .int v_feasts, .int v_gifts, .int v_leaves, .int v_lates, .int v_store, .int v_allCandles, .ref a_isPriest, .ref a_bars, .ref a_joined, .ref a_turns, .ref a_awayMonk, .ref a_awayFrom, .ref a_awayTo, .ref a_feastDay, .ref a_rank, .ref a_isWeekly, .ref a_isDouble, .ref a_giftDay, .ref a_giftFrom, .ref a_owed, .ref a_said, .ref a_spared, .ref a_leaveGift, .ref a_leaveFrom, .ref a_leaveTo, .ref a_lateDay, .ref a_lateOffice, .ref a_lateBy, .ref a_guests, .ref a_who, .ref a_used, .ref a_lacks, .ref a_candles, .ref a_masses, .ref a_owing, .ref a_heldOn, .ref a_waits, .ref a_tape, .ref a_text, .int v_taped, .int v_size, .int v_at, .int v_fault, .int v_rules, .ref a_statements, .ref a_taken, .ref a_sort, .ref a_first, .ref a_second, .int v_wordEnd, .int v_number])), (a_isWeekly, .inl (cZ, 40, .inl f_isWeekly)), (a_isDouble, .inl (cZ, 40, .inl f_isDouble)), (a_giftDay, .inl (cI, 40, .inl f_giftDay)), (a_giftFrom, .inl (cI, 40, .inl f_giftFrom)), (a_owed, .inl (cI, 40, .inl go1)), (a_spared, .inl (cI, 40, .inl fs)), (a_leaveGift, .inl (cI, 40, .inl f_leaveGift)), (a_leaveFrom, .inl (cI, 40, .inl f_leaveFrom)), (a_leaveTo, .inl (cI, 40, .inl f_leaveTo))] := hD
                          obtain ⟨x_56, ex_56⟩ : ∃ y : Int32, y = j + 1 := ⟨_, rfl⟩
                          refine lv_iinc (v := x_56) (lv' := [(2, .int x_56), (5, .int 1), (4, .int a), (3, .int 1), (0, .ref h), (1, .int d)]) hx hb dX12_owes_174 hl (k := 3) rfl (by rw [ex_56]; rfl) (by decide) rfl (fun ls hl => ?_)
                          first | have tx_56 := t_add ex_56 (by omega) (by omega) | skip
                          refine lv_goto (tgt := 2) hx hb dX12_owes_177 (by decide) ?_
                          exact ih2 x_56 go1 fs (by omega) (by omega) (by omega) (by rw [ix1 (x := x_56) (i := j) (by omega) (by omega)]; first | exact ⟨fo, fs, how, Or.inr (Or.inl ⟨(dueQ_ix (by omega)).mpr (by unfold DueP; rw [← eyd, ← eyw]; first | (rw [if_neg cw]; exact cc.trans em7) | (rw [if_pos cw]; exact cc.trans em3)), (leaveQ_ix (by omega)).mpr (el1 hlv (by omega)), rfl, by rw [egs1, egs2, egs3]; unfold massF; rw [← eyb]; first | rw [if_pos cb] | rw [if_neg cb]⟩)⟩ | exact ⟨fo, fs, how, Or.inr (Or.inr ⟨(dueQ_ix (by omega)).mpr (by unfold DueP; rw [← eyd, ← eyw]; first | (rw [if_neg cw]; exact cc.trans em7) | (rw [if_pos cw]; exact cc.trans em3)), fun h => absurd ((leaveQ_ix (by omega)).mp h) ((fun h2 => h2 (el0 hlv (by omega)))), by rw [ego1, ego2, ego3]; unfold massF; rw [← eyb]; first | rw [if_pos cb] | rw [if_neg cb], rfl⟩)⟩ | exact ⟨fo, fs, how, Or.inl ⟨fun h => absurd ((dueQ_ix (by omega)).mp h) ((by unfold DueP; rw [← eyd, ← eyw]; first | (rw [if_neg cw]; exact fun h => cc (h.trans em7.symm)) | (rw [if_pos cw]; exact fun h => cc (h.trans em3.symm)))), rfl, rfl⟩⟩) _ _ hP hD hS ls (lv_sub hl [0, 4, 5] rfl)
                        · have tc_52 := t_neq c_52
                          refine lv_aload_n hx hb dX12_owes_149 rfl (lv_at hl 4 rfl) ?_
                          refine va_get (D := D) (ci := 11) (v := .ref a_spared) (C := RX12) (T := TX12) (N := 54) hx hb hts in_e_owes_X12 hown hK.1 hP 0 rfl rfl 24 (by decide) lk7 (fun _ h9 => h9) rfl dX12_owes_150 ?_
                          refine lv_iload_n hx hb dX12_owes_153 rfl (lv_at hl 3 rfl) ?_
                          refine lv_dup2_11 hx hb dX12_owes_154 rfl rfl ?_
                          refine va_iald hx hb hK.1 hP 6 0 rfl rfl (t_in (by omega) (by omega)) dX12_owes_155 ?_
                          refine lv_topi (fun gs3 egs3 => ?_)
                          refine lv_iload hx hb dX12_owes_156 (lv_at hl 0 rfl) ?_
                          refine lv_iadd hx hb dX12_owes_158 ?_
                          refine lv_topi (fun gs2 egs2 => ?_)
                          refine va_iast hx hb hK.1 hP hD hS 6 0 rfl rfl (t_in (by omega) (by omega)) dX12_owes_159 (fun H locs hP hD hS => ?_)
                          obtain ⟨gs1, egs1⟩ : ∃ z : Nat → Int32, z = upd fs ((j : Int32).toNatClampNeg) gs2 := ⟨_, rfl⟩
                          rw [← egs1] at hP hD
                          have hP : va_P D vwCl [(h, .inr (11, [.int v_today, .int v_monks, .int v_aways, .int v_feasts, .int v_gifts, .int v_leaves, .int v_lates, .int v_store, .int v_allCandles, .ref a_isPriest, .ref a_bars, .ref a_joined, .ref a_turns, .ref a_awayMonk, .ref a_awayFrom, .ref a_awayTo, .ref a_feastDay, .ref a_rank, .ref a_isWeekly, .ref a_isDouble, .ref a_giftDay, .ref a_giftFrom, .ref a_owed, .ref a_said, .ref a_spared, .ref a_leaveGift, .ref a_leaveFrom, .ref a_leaveTo, .ref a_lateDay, .ref a_lateOffice, .ref a_lateBy, .ref a_guests, .ref a_who, .ref a_used, .ref a_lacks, .ref a_candles, .ref a_masses, .ref a_owing, .ref a_heldOn, .ref a_waits, .ref a_tape, .ref a_text, .int v_taped, .int v_size, .int v_at, .int v_fault, .int v_rules, .ref a_statements, .ref a_taken, .ref a_sort, .ref a_first, .ref a_second, .int v_wordEnd, .int v_number])), (a_isWeekly, .inl (cZ, 40, .inl f_isWeekly)), (a_isDouble, .inl (cZ, 40, .inl f_isDouble)), (a_giftDay, .inl (cI, 40, .inl f_giftDay)), (a_giftFrom, .inl (cI, 40, .inl f_giftFrom)), (a_owed, .inl (cI, 40, .inl fo)), (a_spared, .inl (cI, 40, .inl gs1)), (a_leaveGift, .inl (cI, 40, .inl f_leaveGift)), (a_leaveFrom, .inl (cI, 40, .inl f_leaveFrom)), (a_leaveTo, .inl (cI, 40, .inl f_leaveTo))] H := hP
                          have hD : va_D A [(h, .inr (11, [.int v_today, .int v_monks, .int v_aways, .int v_feasts, .int v_gifts, .int v_leaves, .int v_lates, .int v_store, .int v_allCandles, .ref a_isPriest, .ref a_bars, .ref a_joined, .ref a_turns, .ref a_awayMonk, .ref a_awayFrom, .ref a_awayTo, .ref a_feastDay, .ref a_rank, .ref a_isWeekly, .ref a_isDouble, .ref a_giftDay, .ref a_giftFrom, .ref a_owed, .ref a_said, .ref a_spared, .ref a_leaveGift, .ref a_leaveFrom, .ref a_leaveTo, .ref a_lateDay, .ref a_lateOffice, .ref a_lateBy, .ref a_guests, .ref a_who, .ref a_used, .ref a_lacks, .ref a_candles, .ref a_masses, .ref a_owing, .ref a_heldOn, .ref a_waits, .ref a_tape, .ref a_text, .int v_taped, .int v_size, .int v_at, .int v_fault, .int v_rules, .ref a_statements, .ref a_taken, .ref a_sort, .ref a_first, .ref a_second, .int v_wordEnd, .int v_number])), (a_isWeekly, .inl (cZ, 40, .inl f_isWeekly)), (a_isDouble, .inl (cZ, 40, .inl f_isDouble)), (a_giftDay, .inl (cI, 40, .inl f_giftDay)), (a_giftFrom, .inl (cI, 40, .inl f_giftFrom)), (a_owed, .inl (cI, 40, .inl fo)), (a_spared, .inl (cI, 40, .inl gs1)), (a_leaveGift, .inl (cI, 40, .inl f_leaveGift)), (a_leaveFrom, .inl (cI, 40, .inl f_leaveFrom)), (a_leaveTo, .inl (cI, 40, .inl f_leaveTo))] := hD
                          refine lv_goto (tgt := 174) hx hb dX12_owes_160 (by decide) ?_
                          obtain ⟨x_60, ex_60⟩ : ∃ y : Int32, y = j + 1 := ⟨_, rfl⟩
                          refine lv_iinc (v := x_60) (lv' := [(2, .int x_60), (5, .int 1), (4, .int a), (3, .int 1), (0, .ref h), (1, .int d)]) hx hb dX12_owes_174 hl (k := 3) rfl (by rw [ex_60]; rfl) (by decide) rfl (fun ls hl => ?_)
                          first | have tx_60 := t_add ex_60 (by omega) (by omega) | skip
                          refine lv_goto (tgt := 2) hx hb dX12_owes_177 (by decide) ?_
                          exact ih2 x_60 fo gs1 (by omega) (by omega) (by omega) (by rw [ix1 (x := x_60) (i := j) (by omega) (by omega)]; first | exact ⟨fo, fs, how, Or.inr (Or.inl ⟨(dueQ_ix (by omega)).mpr (by unfold DueP; rw [← eyd, ← eyw]; first | (rw [if_neg cw]; exact cc.trans em7) | (rw [if_pos cw]; exact cc.trans em3)), (leaveQ_ix (by omega)).mpr (el1 hlv (by omega)), rfl, by rw [egs1, egs2, egs3]; unfold massF; rw [← eyb]; first | rw [if_pos cb] | rw [if_neg cb]⟩)⟩ | exact ⟨fo, fs, how, Or.inr (Or.inr ⟨(dueQ_ix (by omega)).mpr (by unfold DueP; rw [← eyd, ← eyw]; first | (rw [if_neg cw]; exact cc.trans em7) | (rw [if_pos cw]; exact cc.trans em3)), fun h => absurd ((leaveQ_ix (by omega)).mp h) ((fun h2 => h2 (el0 hlv (by omega)))), by rw [ego1, ego2, ego3]; unfold massF; rw [← eyb]; first | rw [if_pos cb] | rw [if_neg cb], rfl⟩)⟩ | exact ⟨fo, fs, how, Or.inl ⟨fun h => absurd ((dueQ_ix (by omega)).mp h) ((by unfold DueP; rw [← eyd, ← eyw]; first | (rw [if_neg cw]; exact fun h => cc (h.trans em7.symm)) | (rw [if_pos cw]; exact fun h => cc (h.trans em3.symm)))), rfl, rfl⟩⟩) _ _ hP hD hS ls (lv_sub hl [0, 4, 5] rfl)
                      · have tcb := t_neq cb
                        refine lv_iconst (v := 2) hx hb dX12_owes_137 (by decide) ?_
                        refine lv_goto (tgt := 142) hx hb dX12_owes_138 (by decide) ?_
                        refine lv_istore (lv' := [(5, .int 2), (4, .int a), (3, .int 1), (2, .int j), (0, .ref h), (1, .int d)]) hx hb dX12_owes_142 hl (by decide) rfl (fun ls hl => ?_)
                        refine lv_iload hx hb dX12_owes_144 (lv_at hl 1 rfl) ?_
                        refine lv_if_eq (tgt := 163) hx hb dX12_owes_146 (by decide) (fun c_61 => ?_) (fun c_61 => ?_)
                        · have tc_61 := t_eq c_61
                          refine lv_aload_n hx hb dX12_owes_163 rfl (lv_at hl 4 rfl) ?_
                          refine va_get (D := D) (ci := 11) (v := .ref a_owed) (C := RX12) (T := TX12) (N := 54) hx hb hts in_e_owes_X12 hown hK.1 hP 0 rfl rfl 22 (by decide) lk6 (fun _ h9 => h9) rfl dX12_owes_164 ?_
                          refine lv_iload_n hx hb dX12_owes_167 rfl (lv_at hl 3 rfl) ?_
                          refine lv_dup2_11 hx hb dX12_owes_168 rfl rfl ?_
                          refine va_iald hx hb hK.1 hP 5 0 rfl rfl (t_in (by omega) (by omega)) dX12_owes_169 ?_
                          refine lv_topi (fun go3 ego3 => ?_)
                          refine lv_iload hx hb dX12_owes_170 (lv_at hl 0 rfl) ?_
                          refine lv_iadd hx hb dX12_owes_172 ?_
                          refine lv_topi (fun go2 ego2 => ?_)
                          refine va_iast hx hb hK.1 hP hD hS 5 0 rfl rfl (t_in (by omega) (by omega)) dX12_owes_173 (fun H locs hP hD hS => ?_)
                          obtain ⟨go1, ego1⟩ : ∃ z : Nat → Int32, z = upd fo ((j : Int32).toNatClampNeg) go2 := ⟨_, rfl⟩
                          rw [← ego1] at hP hD
                          have hP : va_P D vwCl [(h, .inr (11, [.int v_today, .int v_monks, .int v_aways, .int v_feasts, .int v_gifts, .int v_leaves, .int v_lates, .int v_store, .int v_allCandles, .ref a_isPriest, .ref a_bars, .ref a_joined, .ref a_turns, .ref a_awayMonk, .ref a_awayFrom, .ref a_awayTo, .ref a_feastDay, .ref a_rank, .ref a_isWeekly, .ref a_isDouble, .ref a_giftDay, .ref a_giftFrom, .ref a_owed, .ref a_said, .ref a_spared, .ref a_leaveGift, .ref a_leaveFrom, .ref a_leaveTo, .ref a_lateDay, .ref a_lateOffice, .ref a_lateBy, .ref a_guests, .ref a_who, .ref a_used, .ref a_lacks, .ref a_candles, .ref a_masses, .ref a_owing, .ref a_heldOn, .ref a_waits, .ref a_tape, .ref a_text, .int v_taped, .int v_size, .int v_at, .int v_fault, .int v_rules, .ref a_statements, .ref a_taken, .ref a_sort, .ref a_first, .ref a_second, .int v_wordEnd, .int v_number])), (a_isWeekly, .inl (cZ, 40, .inl f_isWeekly)), (a_isDouble, .inl (cZ, 40, .inl f_isDouble)), (a_giftDay, .inl (cI, 40, .inl f_giftDay)), (a_giftFrom, .inl (cI, 40, .inl f_giftFrom)), (a_owed, .inl (cI, 40, .inl go1)), (a_spared, .inl (cI, 40, .inl fs)), (a_leaveGift, .inl (cI, 40, .inl f_leaveGift)), (a_leaveFrom, .inl (cI, 40, .inl f_leaveFrom)), (a_leaveTo, .inl (cI, 40, .inl f_leaveTo))] H := hP
                          have hD : va_D A [(h, .inr (11, [.int v_today, .int v_monks, .int v_aways, .int v_feasts, .int v_gifts, .int v_leaves, .int v_lates, .int v_store, .int v_allCandles, .ref a_isPriest, .ref a_bars, .ref a_joined, .ref a_turns, .ref a_awayMonk, .ref a_awayFrom, .ref a_awayTo, .ref a_feastDay, .ref a_rank, .ref a_isWeekly, .ref a_isDouble, .ref a_giftDay, .ref a_giftFrom, .ref a_owed, .ref a_said, .ref a_spared, .ref a_leaveGift, .ref a_leaveFrom, .ref a_leaveTo, .ref a_lateDay, .ref a_lateOffice, .ref a_lateBy, .ref a_guests, .ref a_who, .ref a_used, .ref a_lacks, .ref a_candles, .ref a_masses, .ref a_owing, .ref a_heldOn, .ref a_waits, .ref a_tape, .ref a_text, .int v_taped, .int v_size, .int v_at, .int v_fault, .int v_rules, .ref a_statements, .ref a_taken, .ref a_sort, .ref a_first, .ref a_second, .int v_wordEnd, .int v_number])), (a_isWeekly, .inl (cZ, 40, .inl f_isWeekly)), (a_isDouble, .inl (cZ, 40, .inl f_isDouble)), (a_giftDay, .inl (cI, 40, .inl f_giftDay)), (a_giftFrom, .inl (cI, 40, .inl f_giftFrom)), (a_owed, .inl (cI, 40, .inl go1)), (a_spared, .inl (cI, 40, .inl fs)), (a_leaveGift, .inl (cI, 40, .inl f_leaveGift)), (a_leaveFrom, .inl (cI, 40, .inl f_leaveFrom)), (a_leaveTo, .inl (cI, 40, .inl f_leaveTo))] := hD
                          obtain ⟨x_65, ex_65⟩ : ∃ y : Int32, y = j + 1 := ⟨_, rfl⟩
                          refine lv_iinc (v := x_65) (lv' := [(2, .int x_65), (5, .int 2), (4, .int a), (3, .int 1), (0, .ref h), (1, .int d)]) hx hb dX12_owes_174 hl (k := 3) rfl (by rw [ex_65]; rfl) (by decide) rfl (fun ls hl => ?_)
                          first | have tx_65 := t_add ex_65 (by omega) (by omega) | skip
                          refine lv_goto (tgt := 2) hx hb dX12_owes_177 (by decide) ?_
                          exact ih2 x_65 go1 fs (by omega) (by omega) (by omega) (by rw [ix1 (x := x_65) (i := j) (by omega) (by omega)]; first | exact ⟨fo, fs, how, Or.inr (Or.inl ⟨(dueQ_ix (by omega)).mpr (by unfold DueP; rw [← eyd, ← eyw]; first | (rw [if_neg cw]; exact cc.trans em7) | (rw [if_pos cw]; exact cc.trans em3)), (leaveQ_ix (by omega)).mpr (el1 hlv (by omega)), rfl, by rw [egs1, egs2, egs3]; unfold massF; rw [← eyb]; first | rw [if_pos cb] | rw [if_neg cb]⟩)⟩ | exact ⟨fo, fs, how, Or.inr (Or.inr ⟨(dueQ_ix (by omega)).mpr (by unfold DueP; rw [← eyd, ← eyw]; first | (rw [if_neg cw]; exact cc.trans em7) | (rw [if_pos cw]; exact cc.trans em3)), fun h => absurd ((leaveQ_ix (by omega)).mp h) ((fun h2 => h2 (el0 hlv (by omega)))), by rw [ego1, ego2, ego3]; unfold massF; rw [← eyb]; first | rw [if_pos cb] | rw [if_neg cb], rfl⟩)⟩ | exact ⟨fo, fs, how, Or.inl ⟨fun h => absurd ((dueQ_ix (by omega)).mp h) ((by unfold DueP; rw [← eyd, ← eyw]; first | (rw [if_neg cw]; exact fun h => cc (h.trans em7.symm)) | (rw [if_pos cw]; exact fun h => cc (h.trans em3.symm)))), rfl, rfl⟩⟩) _ _ hP hD hS ls (lv_sub hl [0, 4, 5] rfl)
                        · have tc_61 := t_neq c_61
                          refine lv_aload_n hx hb dX12_owes_149 rfl (lv_at hl 4 rfl) ?_
                          refine va_get (D := D) (ci := 11) (v := .ref a_spared) (C := RX12) (T := TX12) (N := 54) hx hb hts in_e_owes_X12 hown hK.1 hP 0 rfl rfl 24 (by decide) lk7 (fun _ h9 => h9) rfl dX12_owes_150 ?_
                          refine lv_iload_n hx hb dX12_owes_153 rfl (lv_at hl 3 rfl) ?_
                          refine lv_dup2_11 hx hb dX12_owes_154 rfl rfl ?_
                          refine va_iald hx hb hK.1 hP 6 0 rfl rfl (t_in (by omega) (by omega)) dX12_owes_155 ?_
                          refine lv_topi (fun gs3 egs3 => ?_)
                          refine lv_iload hx hb dX12_owes_156 (lv_at hl 0 rfl) ?_
                          refine lv_iadd hx hb dX12_owes_158 ?_
                          refine lv_topi (fun gs2 egs2 => ?_)
                          refine va_iast hx hb hK.1 hP hD hS 6 0 rfl rfl (t_in (by omega) (by omega)) dX12_owes_159 (fun H locs hP hD hS => ?_)
                          obtain ⟨gs1, egs1⟩ : ∃ z : Nat → Int32, z = upd fs ((j : Int32).toNatClampNeg) gs2 := ⟨_, rfl⟩
                          rw [← egs1] at hP hD
                          have hP : va_P D vwCl [(h, .inr (11, [.int v_today, .int v_monks, .int v_aways, .int v_feasts, .int v_gifts, .int v_leaves, .int v_lates, .int v_store, .int v_allCandles, .ref a_isPriest, .ref a_bars, .ref a_joined, .ref a_turns, .ref a_awayMonk, .ref a_awayFrom, .ref a_awayTo, .ref a_feastDay, .ref a_rank, .ref a_isWeekly, .ref a_isDouble, .ref a_giftDay, .ref a_giftFrom, .ref a_owed, .ref a_said, .ref a_spared, .ref a_leaveGift, .ref a_leaveFrom, .ref a_leaveTo, .ref a_lateDay, .ref a_lateOffice, .ref a_lateBy, .ref a_guests, .ref a_who, .ref a_used, .ref a_lacks, .ref a_candles, .ref a_masses, .ref a_owing, .ref a_heldOn, .ref a_waits, .ref a_tape, .ref a_text, .int v_taped, .int v_size, .int v_at, .int v_fault, .int v_rules, .ref a_statements, .ref a_taken, .ref a_sort, .ref a_first, .ref a_second, .int v_wordEnd, .int v_number])), (a_isWeekly, .inl (cZ, 40, .inl f_isWeekly)), (a_isDouble, .inl (cZ, 40, .inl f_isDouble)), (a_giftDay, .inl (cI, 40, .inl f_giftDay)), (a_giftFrom, .inl (cI, 40, .inl f_giftFrom)), (a_owed, .inl (cI, 40, .inl fo)), (a_spared, .inl (cI, 40, .inl gs1)), (a_leaveGift, .inl (cI, 40, .inl f_leaveGift)), (a_leaveFrom, .inl (cI, 40, .inl f_leaveFrom)), (a_leaveTo, .inl (cI, 40, .inl f_leaveTo))] H := hP
                          have hD : va_D A [(h, .inr (11, [.int v_today, .int v_monks, .int v_aways, .int v_feasts, .int v_gifts, .int v_leaves, .int v_lates, .int v_store, .int v_allCandles, .ref a_isPriest, .ref a_bars, .ref a_joined, .ref a_turns, .ref a_awayMonk, .ref a_awayFrom, .ref a_awayTo, .ref a_feastDay, .ref a_rank, .ref a_isWeekly, .ref a_isDouble, .ref a_giftDay, .ref a_giftFrom, .ref a_owed, .ref a_said, .ref a_spared, .ref a_leaveGift, .ref a_leaveFrom, .ref a_leaveTo, .ref a_lateDay, .ref a_lateOffice, .ref a_lateBy, .ref a_guests, .ref a_who, .ref a_used, .ref a_lacks, .ref a_candles, .ref a_masses, .ref a_owing, .ref a_heldOn, .ref a_waits, .ref a_tape, .ref a_text, .int v_taped, .int v_size, .int v_at, .int v_fault, .int v_rules, .ref a_statements, .ref a_taken, .ref a_sort, .ref a_first, .ref a_second, .int v_wordEnd, .int v_number])), (a_isWeekly, .inl (cZ, 40, .inl f_isWeekly)), (a_isDouble, .inl (cZ, 40, .inl f_isDouble)), (a_giftDay, .inl (cI, 40, .inl f_giftDay)), (a_giftFrom, .inl (cI, 40, .inl f_giftFrom)), (a_owed, .inl (cI, 40, .inl fo)), (a_spared, .inl (cI, 40, .inl gs1)), (a_leaveGift, .inl (cI, 40, .inl f_leaveGift)), (a_leaveFrom, .inl (cI, 40, .inl f_leaveFrom)), (a_leaveTo, .inl (cI, 40, .inl f_leaveTo))] := hD
                          refine lv_goto (tgt := 174) hx hb dX12_owes_160 (by decide) ?_
                          obtain ⟨x_69, ex_69⟩ : ∃ y : Int32, y = j + 1 := ⟨_, rfl⟩
                          refine lv_iinc (v := x_69) (lv' := [(2, .int x_69), (5, .int 2), (4, .int a), (3, .int 1), (0, .ref h), (1, .int d)]) hx hb dX12_owes_174 hl (k := 3) rfl (by rw [ex_69]; rfl) (by decide) rfl (fun ls hl => ?_)
                          first | have tx_69 := t_add ex_69 (by omega) (by omega) | skip
                          refine lv_goto (tgt := 2) hx hb dX12_owes_177 (by decide) ?_
                          exact ih2 x_69 fo gs1 (by omega) (by omega) (by omega) (by rw [ix1 (x := x_69) (i := j) (by omega) (by omega)]; first | exact ⟨fo, fs, how, Or.inr (Or.inl ⟨(dueQ_ix (by omega)).mpr (by unfold DueP; rw [← eyd, ← eyw]; first | (rw [if_neg cw]; exact cc.trans em7) | (rw [if_pos cw]; exact cc.trans em3)), (leaveQ_ix (by omega)).mpr (el1 hlv (by omega)), rfl, by rw [egs1, egs2, egs3]; unfold massF; rw [← eyb]; first | rw [if_pos cb] | rw [if_neg cb]⟩)⟩ | exact ⟨fo, fs, how, Or.inr (Or.inr ⟨(dueQ_ix (by omega)).mpr (by unfold DueP; rw [← eyd, ← eyw]; first | (rw [if_neg cw]; exact cc.trans em7) | (rw [if_pos cw]; exact cc.trans em3)), fun h => absurd ((leaveQ_ix (by omega)).mp h) ((fun h2 => h2 (el0 hlv (by omega)))), by rw [ego1, ego2, ego3]; unfold massF; rw [← eyb]; first | rw [if_pos cb] | rw [if_neg cb], rfl⟩)⟩ | exact ⟨fo, fs, how, Or.inl ⟨fun h => absurd ((dueQ_ix (by omega)).mp h) ((by unfold DueP; rw [← eyd, ← eyw]; first | (rw [if_neg cw]; exact fun h => cc (h.trans em7.symm)) | (rw [if_pos cw]; exact fun h => cc (h.trans em3.symm)))), rfl, rfl⟩⟩) _ _ hP hD hS ls (lv_sub hl [0, 4, 5] rfl)
                    · have tc_49 := t_nle c_49
                      refine lv_iload hx hb dX12_owes_78 (lv_at hl 1 rfl) ?_
                      refine lv_if_ne (tgt := 115) hx hb dX12_owes_80 (by decide) (fun c_70 => ?_) (fun c_70 => ?_)
                      · have tc_70 := t_neq c_70
                        refine lv_iconst (v := 1) hx hb dX12_owes_115 (by decide) ?_
                        refine lv_goto (tgt := 120) hx hb dX12_owes_116 (by decide) ?_
                        refine lv_istore (lv' := [(4, .int 1), (5, .int q), (3, .int 1), (2, .int j), (0, .ref h), (1, .int d)]) hx hb dX12_owes_120 hl (by decide) rfl (fun ls hl => ?_)
                        obtain ⟨x_71, ex_71⟩ : ∃ y : Int32, y = q + 1 := ⟨_, rfl⟩
                        refine lv_iinc (v := x_71) (lv' := [(5, .int x_71), (4, .int 1), (3, .int 1), (2, .int j), (0, .ref h), (1, .int d)]) hx hb dX12_owes_122 hl (k := 1) rfl (by rw [ex_71]; rfl) (by decide) rfl (fun ls hl => ?_)
                        first | have tx_71 := t_add ex_71 (by omega) (by omega) | skip
                        refine lv_goto (tgt := 69) hx hb dX12_owes_125 (by decide) ?_
                        exact ih69 1 x_71 (by omega) (by omega) (by omega) (by first | exact Or.inl ⟨by omega, (el0 ha (by omega)).up (i := q) (by omega) (fun h => by have h1 := h.1; have h2 := h.2; rw [← eya] at h1; first | (have := t_eq h1; omega) | (rw [← eyf, ← eyt] at h2; omega)) (by omega)⟩ | exact Or.inr ⟨by omega, fun h => el1 ha (by omega) (h.to (by omega))⟩ | exact Or.inr ⟨by omega, Al.no (i := q) (by omega) (by omega) (fun h => h ⟨by rw [← eya]; exact i32_ext (by omega), by rw [← eyf]; omega, by rw [← eyt]; omega⟩)⟩) _ _ hP hD hS ls (lv_sub hl [0, 1, 2, 3, 4, 5] rfl)
                      · have tc_70 := t_eq c_70
                        refine lv_aload_n hx hb dX12_owes_83 rfl (lv_at hl 4 rfl) ?_
                        refine va_get (D := D) (ci := 11) (v := .ref a_leaveGift) (C := RX12) (T := TX12) (N := 54) hx hb hts in_e_owes_X12 hown hK.1 hP 0 rfl rfl 25 (by decide) lk8 (fun _ h9 => h9) rfl dX12_owes_84 ?_
                        refine lv_iload hx hb dX12_owes_87 (lv_at hl 0 rfl) ?_
                        refine va_iald hx hb hK.1 hP 7 0 rfl rfl (t_in (by omega) (by omega)) dX12_owes_89 ?_
                        refine lv_topi (fun ya eya => ?_)
                        refine lv_iload_n hx hb dX12_owes_90 rfl (lv_at hl 3 rfl) ?_
                        refine lv_icmp_ne (tgt := 119) hx hb dX12_owes_91 (by decide) (fun c_73 => ?_) (fun c_73 => ?_)
                        · have tc_73 := t_neq c_73
                          refine lv_iconst (v := 0) hx hb dX12_owes_119 (by decide) ?_
                          refine lv_istore (lv' := [(4, .int 0), (5, .int q), (3, .int 1), (2, .int j), (0, .ref h), (1, .int d)]) hx hb dX12_owes_120 hl (by decide) rfl (fun ls hl => ?_)
                          obtain ⟨x_74, ex_74⟩ : ∃ y : Int32, y = q + 1 := ⟨_, rfl⟩
                          refine lv_iinc (v := x_74) (lv' := [(5, .int x_74), (4, .int 0), (3, .int 1), (2, .int j), (0, .ref h), (1, .int d)]) hx hb dX12_owes_122 hl (k := 1) rfl (by rw [ex_74]; rfl) (by decide) rfl (fun ls hl => ?_)
                          first | have tx_74 := t_add ex_74 (by omega) (by omega) | skip
                          refine lv_goto (tgt := 69) hx hb dX12_owes_125 (by decide) ?_
                          exact ih69 0 x_74 (by omega) (by omega) (by omega) (by first | exact Or.inl ⟨by omega, (el0 ha (by omega)).up (i := q) (by omega) (fun h => by have h1 := h.1; have h2 := h.2; rw [← eya] at h1; first | (have := t_eq h1; omega) | (rw [← eyf, ← eyt] at h2; omega)) (by omega)⟩ | exact Or.inr ⟨by omega, fun h => el1 ha (by omega) (h.to (by omega))⟩ | exact Or.inr ⟨by omega, Al.no (i := q) (by omega) (by omega) (fun h => h ⟨by rw [← eya]; exact i32_ext (by omega), by rw [← eyf]; omega, by rw [← eyt]; omega⟩)⟩) _ _ hP hD hS ls (lv_sub hl [0, 1, 2, 3, 4, 5] rfl)
                        · have tc_73 := t_eq c_73
                          refine lv_iload_n hx hb dX12_owes_94 rfl (lv_at hl 5 rfl) ?_
                          refine lv_aload_n hx hb dX12_owes_95 rfl (lv_at hl 4 rfl) ?_
                          refine va_get (D := D) (ci := 11) (v := .ref a_leaveFrom) (C := RX12) (T := TX12) (N := 54) hx hb hts in_e_owes_X12 hown hK.1 hP 0 rfl rfl 26 (by decide) lk9 (fun _ h9 => h9) rfl dX12_owes_96 ?_
                          refine lv_iload hx hb dX12_owes_99 (lv_at hl 0 rfl) ?_
                          refine va_iald hx hb hK.1 hP 8 0 rfl rfl (t_in (by omega) (by omega)) dX12_owes_101 ?_
                          refine lv_topi (fun yf eyf => ?_)
                          refine lv_aload_n hx hb dX12_owes_102 rfl (lv_at hl 4 rfl) ?_
                          refine va_get (D := D) (ci := 11) (v := .ref a_leaveTo) (C := RX12) (T := TX12) (N := 54) hx hb hts in_e_owes_X12 hown hK.1 hP 0 rfl rfl 27 (by decide) lk10 (fun _ h9 => h9) rfl dX12_owes_103 ?_
                          refine lv_iload hx hb dX12_owes_106 (lv_at hl 0 rfl) ?_
                          refine va_iald hx hb hK.1 hP 9 0 rfl rfl (t_in (by omega) (by omega)) dX12_owes_108 ?_
                          refine lv_topi (fun yt eyt => ?_)
                          have hPc := hP.sub (ws' := []) [] rfl
                          refine roS (As := [.int d, .int yf, .int yt]) (rest := []) S (m_isIn  ) (va_cwS 3 hts gX12_owes_X12_isIn rfl rfl rfl hd_X12_isIn ⟨Nat.le_of_ble_eq_true rfl, Nat.le_of_ble_eq_true rfl⟩) hK hPc rfl hl.1 rfl (Nat.le_of_ble_eq_true rfl) dX12_owes_109 ⟨Nat.le_of_ble_eq_true rfl, Nat.le_of_ble_eq_true rfl⟩ (fun r_77 hw_77 => ?_)
                          have hw_77 : (r_77.toInt = 1 ∧ yf.toInt ≤ d.toInt ∧ d.toInt ≤ yt.toInt) ∨ (r_77.toInt = 0 ∧ (d.toInt < yf.toInt ∨ yt.toInt < d.toInt)) := hw_77
                          refine lv_if_eq (tgt := 119) hx hb dX12_owes_112 (by decide) (fun c_78 => ?_) (fun c_78 => ?_)
                          · have tc_78 := t_eq c_78
                            refine lv_iconst (v := 0) hx hb dX12_owes_119 (by decide) ?_
                            refine lv_istore (lv' := [(4, .int 0), (5, .int q), (3, .int 1), (2, .int j), (0, .ref h), (1, .int d)]) hx hb dX12_owes_120 hl (by decide) rfl (fun ls hl => ?_)
                            obtain ⟨x_79, ex_79⟩ : ∃ y : Int32, y = q + 1 := ⟨_, rfl⟩
                            refine lv_iinc (v := x_79) (lv' := [(5, .int x_79), (4, .int 0), (3, .int 1), (2, .int j), (0, .ref h), (1, .int d)]) hx hb dX12_owes_122 hl (k := 1) rfl (by rw [ex_79]; rfl) (by decide) rfl (fun ls hl => ?_)
                            first | have tx_79 := t_add ex_79 (by omega) (by omega) | skip
                            refine lv_goto (tgt := 69) hx hb dX12_owes_125 (by decide) ?_
                            exact ih69 0 x_79 (by omega) (by omega) (by omega) (by first | exact Or.inl ⟨by omega, (el0 ha (by omega)).up (i := q) (by omega) (fun h => by have h1 := h.1; have h2 := h.2; rw [← eya] at h1; first | (have := t_eq h1; omega) | (rw [← eyf, ← eyt] at h2; omega)) (by omega)⟩ | exact Or.inr ⟨by omega, fun h => el1 ha (by omega) (h.to (by omega))⟩ | exact Or.inr ⟨by omega, Al.no (i := q) (by omega) (by omega) (fun h => h ⟨by rw [← eya]; exact i32_ext (by omega), by rw [← eyf]; omega, by rw [← eyt]; omega⟩)⟩) _ _ hP hD hS ls (lv_sub hl [0, 1, 2, 3, 4, 5] rfl)
                          · have tc_78 := t_neq c_78
                            refine lv_iconst (v := 1) hx hb dX12_owes_115 (by decide) ?_
                            refine lv_goto (tgt := 120) hx hb dX12_owes_116 (by decide) ?_
                            refine lv_istore (lv' := [(4, .int 1), (5, .int q), (3, .int 1), (2, .int j), (0, .ref h), (1, .int d)]) hx hb dX12_owes_120 hl (by decide) rfl (fun ls hl => ?_)
                            obtain ⟨x_80, ex_80⟩ : ∃ y : Int32, y = q + 1 := ⟨_, rfl⟩
                            refine lv_iinc (v := x_80) (lv' := [(5, .int x_80), (4, .int 1), (3, .int 1), (2, .int j), (0, .ref h), (1, .int d)]) hx hb dX12_owes_122 hl (k := 1) rfl (by rw [ex_80]; rfl) (by decide) rfl (fun ls hl => ?_)
                            first | have tx_80 := t_add ex_80 (by omega) (by omega) | skip
                            refine lv_goto (tgt := 69) hx hb dX12_owes_125 (by decide) ?_
                            exact ih69 1 x_80 (by omega) (by omega) (by omega) (by first | exact Or.inl ⟨by omega, (el0 ha (by omega)).up (i := q) (by omega) (fun h => by have h1 := h.1; have h2 := h.2; rw [← eya] at h1; first | (have := t_eq h1; omega) | (rw [← eyf, ← eyt] at h2; omega)) (by omega)⟩ | exact Or.inr ⟨by omega, fun h => el1 ha (by omega) (h.to (by omega))⟩ | exact Or.inr ⟨by omega, Al.no (i := q) (by omega) (by omega) (fun h => h ⟨by rw [← eya]; exact i32_ext (by omega), by rw [← eyf]; omega, by rw [← eyt]; omega⟩)⟩) _ _ hP hD hS ls (lv_sub hl [0, 1, 2, 3, 4, 5] rfl)
                exact loop69 ((v_leaves.toInt - (0 : Int32).toInt).toNat + 1) 0 0 (by omega) (by omega) (by omega) (Or.inl ⟨by omega, Al.zero (by omega)⟩) _ _ hP hD hS ls (lv_sub hl [0, 1, 2, 3, 4, 5] rfl)
              · exact absurd c_48 (by decide)
  exact loop2 ((v_gifts.toInt - (0 : Int32).toInt).toNat + 1) 0 f_owed f_spared (by omega) (by omega) (by omega) (by rw [ix0]; exact ⟨rfl, rfl⟩) _ _ hP hD hS ls (lv_sub hl [0, 1, 2] rfl)

theorem in_e_says_X12 : ∀ w ∈ wsX120, w ∈ wsX12_says := tl_X12_says_X12
set_option maxHeartbeats 8000000 in
set_option maxRecDepth 100000 in
theorem e_says {l : Launch} {D : va_G} {cI cZ cB : ClassId} {sz : Nat} {h a_isPriest a_bars a_joined a_turns a_awayMonk a_awayFrom a_awayTo a_feastDay a_rank a_isWeekly a_isDouble a_giftDay a_giftFrom a_owed a_said a_spared a_leaveGift a_leaveFrom a_leaveTo a_lateDay a_lateOffice a_lateBy a_guests a_who a_used a_lacks a_candles a_masses a_owing a_heldOn a_waits a_tape a_text a_statements a_taken a_sort a_first a_second : Nat} {v_today v_monks v_aways v_feasts v_gifts v_leaves v_lates v_store v_allCandles v_taped v_size v_at v_fault v_rules v_wordEnd v_number : Int32} {f_owed f_said f_masses : Nat → Int32} {d : Int32} (h0_gifts : 0 ≤ v_gifts.toInt) (h1_gifts : v_gifts.toInt ≤ 40) (hd0 : 0 ≤ d.toInt) (hd1 : d.toInt ≤ 1094) : Met l yX12_says wsX12_says ({ frames := 0, cells := 0, slots := 0, locals := 0 }) (RW D cI cZ cB [.ref h, .int d] sz [(h, .inr (11, [.int v_today, .int v_monks, .int v_aways, .int v_feasts, .int v_gifts, .int v_leaves, .int v_lates, .int v_store, .int v_allCandles, .ref a_isPriest, .ref a_bars, .ref a_joined, .ref a_turns, .ref a_awayMonk, .ref a_awayFrom, .ref a_awayTo, .ref a_feastDay, .ref a_rank, .ref a_isWeekly, .ref a_isDouble, .ref a_giftDay, .ref a_giftFrom, .ref a_owed, .ref a_said, .ref a_spared, .ref a_leaveGift, .ref a_leaveFrom, .ref a_leaveTo, .ref a_lateDay, .ref a_lateOffice, .ref a_lateBy, .ref a_guests, .ref a_who, .ref a_used, .ref a_lacks, .ref a_candles, .ref a_masses, .ref a_owing, .ref a_heldOn, .ref a_waits, .ref a_tape, .ref a_text, .int v_taped, .int v_size, .int v_at, .int v_fault, .int v_rules, .ref a_statements, .ref a_taken, .ref a_sort, .ref a_first, .ref a_second, .int v_wordEnd, .int v_number])), (a_owed, .inl (cI, 40, .inl f_owed)), (a_said, .inl (cI, 40, .inl f_said)), (a_masses, .inl (cI, 1095, .inl f_masses))]) (va_Qv (fun u : (Nat → Int32) × (Nat → Int32) × (Nat → Int32) => SayS v_gifts.toInt f_owed f_said u.1 u.2.1) (BW D [(h, .inr (11, [.int v_today, .int v_monks, .int v_aways, .int v_feasts, .int v_gifts, .int v_leaves, .int v_lates, .int v_store, .int v_allCandles, .ref a_isPriest, .ref a_bars, .ref a_joined, .ref a_turns, .ref a_awayMonk, .ref a_awayFrom, .ref a_awayTo, .ref a_feastDay, .ref a_rank, .ref a_isWeekly, .ref a_isDouble, .ref a_giftDay, .ref a_giftFrom, .ref a_owed, .ref a_said, .ref a_spared, .ref a_leaveGift, .ref a_leaveFrom, .ref a_leaveTo, .ref a_lateDay, .ref a_lateOffice, .ref a_lateBy, .ref a_guests, .ref a_who, .ref a_used, .ref a_lacks, .ref a_candles, .ref a_masses, .ref a_owing, .ref a_heldOn, .ref a_waits, .ref a_tape, .ref a_text, .int v_taped, .int v_size, .int v_at, .int v_fault, .int v_rules, .ref a_statements, .ref a_taken, .ref a_sort, .ref a_first, .ref a_second, .int v_wordEnd, .int v_number])), (a_owed, .inl (cI, 40, .inl f_owed)), (a_said, .inl (cI, 40, .inl f_said)), (a_masses, .inl (cI, 1095, .inl f_masses))] sz (fun u : (Nat → Int32) × (Nat → Int32) × (Nat → Int32) => [(h, .inr (11, [.int v_today, .int v_monks, .int v_aways, .int v_feasts, .int v_gifts, .int v_leaves, .int v_lates, .int v_store, .int v_allCandles, .ref a_isPriest, .ref a_bars, .ref a_joined, .ref a_turns, .ref a_awayMonk, .ref a_awayFrom, .ref a_awayTo, .ref a_feastDay, .ref a_rank, .ref a_isWeekly, .ref a_isDouble, .ref a_giftDay, .ref a_giftFrom, .ref a_owed, .ref a_said, .ref a_spared, .ref a_leaveGift, .ref a_leaveFrom, .ref a_leaveTo, .ref a_lateDay, .ref a_lateOffice, .ref a_lateBy, .ref a_guests, .ref a_who, .ref a_used, .ref a_lacks, .ref a_candles, .ref a_masses, .ref a_owing, .ref a_heldOn, .ref a_waits, .ref a_tape, .ref a_text, .int v_taped, .int v_size, .int v_at, .int v_fault, .int v_rules, .ref a_statements, .ref a_taken, .ref a_sort, .ref a_first, .ref a_second, .int v_wordEnd, .int v_number])), (a_owed, .inl (cI, 40, .inl u.1)), (a_said, .inl (cI, 40, .inl u.2.1)), (a_masses, .inl (cI, 1095, .inl u.2.2))])) (va_A [(h, .inr (11, [.int v_today, .int v_monks, .int v_aways, .int v_feasts, .int v_gifts, .int v_leaves, .int v_lates, .int v_store, .int v_allCandles, .ref a_isPriest, .ref a_bars, .ref a_joined, .ref a_turns, .ref a_awayMonk, .ref a_awayFrom, .ref a_awayTo, .ref a_feastDay, .ref a_rank, .ref a_isWeekly, .ref a_isDouble, .ref a_giftDay, .ref a_giftFrom, .ref a_owed, .ref a_said, .ref a_spared, .ref a_leaveGift, .ref a_leaveFrom, .ref a_leaveTo, .ref a_lateDay, .ref a_lateOffice, .ref a_lateBy, .ref a_guests, .ref a_who, .ref a_used, .ref a_lacks, .ref a_candles, .ref a_masses, .ref a_owing, .ref a_heldOn, .ref a_waits, .ref a_tape, .ref a_text, .int v_taped, .int v_size, .int v_at, .int v_fault, .int v_rules, .ref a_statements, .ref a_taken, .ref a_sort, .ref a_first, .ref a_second, .int v_wordEnd, .int v_number])), (a_owed, .inl (cI, 40, .inl f_owed)), (a_said, .inl (cI, 40, .inl f_said)), (a_masses, .inl (cI, 1095, .inl f_masses))] sz)) 0 (0) (va_A [(h, .inr (11, [.int v_today, .int v_monks, .int v_aways, .int v_feasts, .int v_gifts, .int v_leaves, .int v_lates, .int v_store, .int v_allCandles, .ref a_isPriest, .ref a_bars, .ref a_joined, .ref a_turns, .ref a_awayMonk, .ref a_awayFrom, .ref a_awayTo, .ref a_feastDay, .ref a_rank, .ref a_isWeekly, .ref a_isDouble, .ref a_giftDay, .ref a_giftFrom, .ref a_owed, .ref a_said, .ref a_spared, .ref a_leaveGift, .ref a_leaveFrom, .ref a_leaveTo, .ref a_lateDay, .ref a_lateOffice, .ref a_lateBy, .ref a_guests, .ref a_who, .ref a_used, .ref a_lacks, .ref a_candles, .ref a_masses, .ref a_owing, .ref a_heldOn, .ref a_waits, .ref a_tape, .ref a_text, .int v_taped, .int v_size, .int v_at, .int v_fault, .int v_rules, .ref a_statements, .ref a_taken, .ref a_sort, .ref a_first, .ref a_second, .int v_wordEnd, .int v_number])), (a_owed, .inl (cI, 40, .inl f_owed)), (a_said, .inl (cI, 40, .inl f_said)), (a_masses, .inl (cI, 1095, .inl f_masses))] sz) := by
  refine rw_retv (cc := cX12_says) (maxL := 4) (own := RX12) (by decide) rfl rfl (Nat.le_of_ble_eq_true rfl) ?_
  intro p e s m args below meth c Q A S hin hret hP hK hD hA hS ls hl
  obtain ⟨hx, hb, hml, hown, hts⟩ := id S
  have hl : lv_has ls 4 [(0, .ref h), (1, .int d)] := hl
  have kkm1 : (-1 : Int32).toInt = -1 := by decide
  have kk0 : (0 : Int32).toInt = 0 := by decide
  have kk1 : (1 : Int32).toInt = 1 := by decide
  have lk0 := hts (.fieldLink RX12 137 "AbbeyHoursModel" "gifts" "I") (List.mem_cons_of_mem _ (List.mem_append_left _ (List.mem_of_getElem? (i := 0) rfl)))
  have lk1 := hts (.fieldLink RX12 50 "AbbeyHoursModel" "owed" "[I") (List.mem_cons_of_mem _ (List.mem_append_left _ (List.mem_of_getElem? (i := 1) rfl)))
  have lk2 := hts (.fieldLink RX12 53 "AbbeyHoursModel" "said" "[I") (List.mem_cons_of_mem _ (List.mem_append_left _ (List.mem_of_getElem? (i := 2) rfl)))
  have lk3 := hts (.fieldLink RX12 92 "AbbeyHoursModel" "masses" "[I") (List.mem_cons_of_mem _ (List.mem_append_left _ (List.mem_of_getElem? (i := 3) rfl)))
  refine lv_iconst (v := (-1)) hx hb dX12_says_0 (by decide) ?_
  refine lv_istore_n (lv' := [(2, .int (-1)), (0, .ref h), (1, .int d)]) hx hb dX12_says_1 rfl hl (by decide) rfl (fun ls hl => ?_)
  refine lv_iconst (v := 0) hx hb dX12_says_2 (by decide) ?_
  refine lv_istore_n (lv' := [(3, .int 0), (2, .int (-1)), (0, .ref h), (1, .int d)]) hx hb dX12_says_3 rfl hl (by decide) rfl (fun ls hl => ?_)
  have loop4 : ∀ (fuel : Nat) (a : Int32) (j : Int32), v_gifts.toInt - j.toInt < (fuel : Int) → (0 ≤ j.toInt) → (j.toInt ≤ v_gifts.toInt) → (IsPick (okO f_owed) (keyO f_owed) j.toInt a) → ∀ (H : Heap) (locs : List Loc), va_P D vwCl [(h, .inr (11, [.int v_today, .int v_monks, .int v_aways, .int v_feasts, .int v_gifts, .int v_leaves, .int v_lates, .int v_store, .int v_allCandles, .ref a_isPriest, .ref a_bars, .ref a_joined, .ref a_turns, .ref a_awayMonk, .ref a_awayFrom, .ref a_awayTo, .ref a_feastDay, .ref a_rank, .ref a_isWeekly, .ref a_isDouble, .ref a_giftDay, .ref a_giftFrom, .ref a_owed, .ref a_said, .ref a_spared, .ref a_leaveGift, .ref a_leaveFrom, .ref a_leaveTo, .ref a_lateDay, .ref a_lateOffice, .ref a_lateBy, .ref a_guests, .ref a_who, .ref a_used, .ref a_lacks, .ref a_candles, .ref a_masses, .ref a_owing, .ref a_heldOn, .ref a_waits, .ref a_tape, .ref a_text, .int v_taped, .int v_size, .int v_at, .int v_fault, .int v_rules, .ref a_statements, .ref a_taken, .ref a_sort, .ref a_first, .ref a_second, .int v_wordEnd, .int v_number])), (a_owed, .inl (cI, 40, .inl f_owed)), (a_said, .inl (cI, 40, .inl f_said)), (a_masses, .inl (cI, 1095, .inl f_masses))] H → va_D A [(h, .inr (11, [.int v_today, .int v_monks, .int v_aways, .int v_feasts, .int v_gifts, .int v_leaves, .int v_lates, .int v_store, .int v_allCandles, .ref a_isPriest, .ref a_bars, .ref a_joined, .ref a_turns, .ref a_awayMonk, .ref a_awayFrom, .ref a_awayTo, .ref a_feastDay, .ref a_rank, .ref a_isWeekly, .ref a_isDouble, .ref a_giftDay, .ref a_giftFrom, .ref a_owed, .ref a_said, .ref a_spared, .ref a_leaveGift, .ref a_leaveFrom, .ref a_leaveTo, .ref a_lateDay, .ref a_lateOffice, .ref a_lateBy, .ref a_guests, .ref a_who, .ref a_used, .ref a_lacks, .ref a_candles, .ref a_masses, .ref a_owing, .ref a_heldOn, .ref a_waits, .ref a_tape, .ref a_text, .int v_taped, .int v_size, .int v_at, .int v_fault, .int v_rules, .ref a_statements, .ref a_taken, .ref a_sort, .ref a_first, .ref a_second, .int v_wordEnd, .int v_number])), (a_owed, .inl (cI, 40, .inl f_owed)), (a_said, .inl (cI, 40, .inl f_said)), (a_masses, .inl (cI, 1095, .inl f_masses))] → va_S A s.heap H locs → ∀ ls : Array Slot, lv_has ls 4 [(3, .int j), (2, .int a), (0, .ref h), (1, .int d)] → W p l e ({ frames := 0, cells := 0, slots := 0, locals := 0 } : Room) s m args below meth c H locs 0 (0) Q (F0 m 4 ls []) := by
    intro fuel
    induction fuel with
    | zero =>
      intro a j hmu hj0 hj1 hpk H locs hP hD hS ls hl
      exfalso; omega
    | succ fuel ih4 =>
      intro a j hmu hj0 hj1 hpk H locs hP hD hS ls hl
      have ha := hpk.rg
      refine lv_iload_n hx hb dX12_says_4 rfl (lv_at hl 0 rfl) ?_
      refine lv_aload_n hx hb dX12_says_5 rfl (lv_at hl 2 rfl) ?_
      refine va_get (D := D) (ci := 11) (v := .int v_gifts) (C := RX12) (T := TX12) (N := 54) hx hb hts in_e_says_X12 hown hK.1 hP 0 rfl rfl 4 (by decide) lk0 (fun _ h9 => h9) rfl dX12_says_6 ?_
      refine lv_icmp_ge (tgt := 49) hx hb dX12_says_9 (by decide) (fun c_1 => ?_) (fun c_1 => ?_)
      · have tc_1 := t_le c_1
        refine lv_iload_n hx hb dX12_says_49 rfl (lv_at hl 1 rfl) ?_
        refine lv_iconst (v := (-1)) hx hb dX12_says_50 (by decide) ?_
        refine lv_icmp_ne (tgt := 55) hx hb dX12_says_51 (by decide) (fun c_2 => ?_) (fun c_2 => ?_)
        · have tc_2 := t_neq c_2
          refine lv_aload_n hx hb dX12_says_55 rfl (lv_at hl 2 rfl) ?_
          refine va_get (D := D) (ci := 11) (v := .ref a_owed) (C := RX12) (T := TX12) (N := 54) hx hb hts in_e_says_X12 hown hK.1 hP 0 rfl rfl 22 (by decide) lk1 (fun _ h9 => h9) rfl dX12_says_56 ?_
          refine lv_iload_n hx hb dX12_says_59 rfl (lv_at hl 1 rfl) ?_
          refine lv_dup2_11 hx hb dX12_says_60 rfl rfl ?_
          refine va_iald hx hb hK.1 hP 1 0 rfl rfl (t_in (by omega) (by omega)) dX12_says_61 ?_
          refine lv_topi (fun go3 ego3 => ?_)
          refine lv_iconst (v := 1) hx hb dX12_says_62 (by decide) ?_
          refine lv_isub hx hb dX12_says_63 ?_
          refine lv_topi (fun go2 ego2 => ?_)
          refine va_iast hx hb hK.1 hP hD hS 1 0 rfl rfl (t_in (by omega) (by omega)) dX12_says_64 (fun H locs hP hD hS => ?_)
          obtain ⟨go1, ego1⟩ : ∃ z : Nat → Int32, z = upd f_owed ((a : Int32).toNatClampNeg) go2 := ⟨_, rfl⟩
          rw [← ego1] at hP hD
          have hP : va_P D vwCl [(h, .inr (11, [.int v_today, .int v_monks, .int v_aways, .int v_feasts, .int v_gifts, .int v_leaves, .int v_lates, .int v_store, .int v_allCandles, .ref a_isPriest, .ref a_bars, .ref a_joined, .ref a_turns, .ref a_awayMonk, .ref a_awayFrom, .ref a_awayTo, .ref a_feastDay, .ref a_rank, .ref a_isWeekly, .ref a_isDouble, .ref a_giftDay, .ref a_giftFrom, .ref a_owed, .ref a_said, .ref a_spared, .ref a_leaveGift, .ref a_leaveFrom, .ref a_leaveTo, .ref a_lateDay, .ref a_lateOffice, .ref a_lateBy, .ref a_guests, .ref a_who, .ref a_used, .ref a_lacks, .ref a_candles, .ref a_masses, .ref a_owing, .ref a_heldOn, .ref a_waits, .ref a_tape, .ref a_text, .int v_taped, .int v_size, .int v_at, .int v_fault, .int v_rules, .ref a_statements, .ref a_taken, .ref a_sort, .ref a_first, .ref a_second, .int v_wordEnd, .int v_number])), (a_owed, .inl (cI, 40, .inl go1)), (a_said, .inl (cI, 40, .inl f_said)), (a_masses, .inl (cI, 1095, .inl f_masses))] H := hP
          have hD : va_D A [(h, .inr (11, [.int v_today, .int v_monks, .int v_aways, .int v_feasts, .int v_gifts, .int v_leaves, .int v_lates, .int v_store, .int v_allCandles, .ref a_isPriest, .ref a_bars, .ref a_joined, .ref a_turns, .ref a_awayMonk, .ref a_awayFrom, .ref a_awayTo, .ref a_feastDay, .ref a_rank, .ref a_isWeekly, .ref a_isDouble, .ref a_giftDay, .ref a_giftFrom, .ref a_owed, .ref a_said, .ref a_spared, .ref a_leaveGift, .ref a_leaveFrom, .ref a_leaveTo, .ref a_lateDay, .ref a_lateOffice, .ref a_lateBy, .ref a_guests, .ref a_who, .ref a_used, .ref a_lacks, .ref a_candles, .ref a_masses, .ref a_owing, .ref a_heldOn, .ref a_waits, .ref a_tape, .ref a_text, .int v_taped, .int v_size, .int v_at, .int v_fault, .int v_rules, .ref a_statements, .ref a_taken, .ref a_sort, .ref a_first, .ref a_second, .int v_wordEnd, .int v_number])), (a_owed, .inl (cI, 40, .inl go1)), (a_said, .inl (cI, 40, .inl f_said)), (a_masses, .inl (cI, 1095, .inl f_masses))] := hD
          refine lv_aload_n hx hb dX12_says_65 rfl (lv_at hl 2 rfl) ?_
          refine va_get (D := D) (ci := 11) (v := .ref a_said) (C := RX12) (T := TX12) (N := 54) hx hb hts in_e_says_X12 hown hK.1 hP 0 rfl rfl 23 (by decide) lk2 (fun _ h9 => h9) rfl dX12_says_66 ?_
          refine lv_iload_n hx hb dX12_says_69 rfl (lv_at hl 1 rfl) ?_
          refine lv_dup2_11 hx hb dX12_says_70 rfl rfl ?_
          refine va_iald hx hb hK.1 hP 2 0 rfl rfl (t_in (by omega) (by omega)) dX12_says_71 ?_
          refine lv_topi (fun gs3 egs3 => ?_)
          refine lv_iconst (v := 1) hx hb dX12_says_72 (by decide) ?_
          refine lv_iadd hx hb dX12_says_73 ?_
          refine lv_topi (fun gs2 egs2 => ?_)
          refine va_iast hx hb hK.1 hP hD hS 2 0 rfl rfl (t_in (by omega) (by omega)) dX12_says_74 (fun H locs hP hD hS => ?_)
          obtain ⟨gs1, egs1⟩ : ∃ z : Nat → Int32, z = upd f_said ((a : Int32).toNatClampNeg) gs2 := ⟨_, rfl⟩
          rw [← egs1] at hP hD
          have hP : va_P D vwCl [(h, .inr (11, [.int v_today, .int v_monks, .int v_aways, .int v_feasts, .int v_gifts, .int v_leaves, .int v_lates, .int v_store, .int v_allCandles, .ref a_isPriest, .ref a_bars, .ref a_joined, .ref a_turns, .ref a_awayMonk, .ref a_awayFrom, .ref a_awayTo, .ref a_feastDay, .ref a_rank, .ref a_isWeekly, .ref a_isDouble, .ref a_giftDay, .ref a_giftFrom, .ref a_owed, .ref a_said, .ref a_spared, .ref a_leaveGift, .ref a_leaveFrom, .ref a_leaveTo, .ref a_lateDay, .ref a_lateOffice, .ref a_lateBy, .ref a_guests, .ref a_who, .ref a_used, .ref a_lacks, .ref a_candles, .ref a_masses, .ref a_owing, .ref a_heldOn, .ref a_waits, .ref a_tape, .ref a_text, .int v_taped, .int v_size, .int v_at, .int v_fault, .int v_rules, .ref a_statements, .ref a_taken, .ref a_sort, .ref a_first, .ref a_second, .int v_wordEnd, .int v_number])), (a_owed, .inl (cI, 40, .inl go1)), (a_said, .inl (cI, 40, .inl gs1)), (a_masses, .inl (cI, 1095, .inl f_masses))] H := hP
          have hD : va_D A [(h, .inr (11, [.int v_today, .int v_monks, .int v_aways, .int v_feasts, .int v_gifts, .int v_leaves, .int v_lates, .int v_store, .int v_allCandles, .ref a_isPriest, .ref a_bars, .ref a_joined, .ref a_turns, .ref a_awayMonk, .ref a_awayFrom, .ref a_awayTo, .ref a_feastDay, .ref a_rank, .ref a_isWeekly, .ref a_isDouble, .ref a_giftDay, .ref a_giftFrom, .ref a_owed, .ref a_said, .ref a_spared, .ref a_leaveGift, .ref a_leaveFrom, .ref a_leaveTo, .ref a_lateDay, .ref a_lateOffice, .ref a_lateBy, .ref a_guests, .ref a_who, .ref a_used, .ref a_lacks, .ref a_candles, .ref a_masses, .ref a_owing, .ref a_heldOn, .ref a_waits, .ref a_tape, .ref a_text, .int v_taped, .int v_size, .int v_at, .int v_fault, .int v_rules, .ref a_statements, .ref a_taken, .ref a_sort, .ref a_first, .ref a_second, .int v_wordEnd, .int v_number])), (a_owed, .inl (cI, 40, .inl go1)), (a_said, .inl (cI, 40, .inl gs1)), (a_masses, .inl (cI, 1095, .inl f_masses))] := hD
          refine lv_aload_n hx hb dX12_says_75 rfl (lv_at hl 2 rfl) ?_
          refine va_get (D := D) (ci := 11) (v := .ref a_masses) (C := RX12) (T := TX12) (N := 54) hx hb hts in_e_says_X12 hown hK.1 hP 0 rfl rfl 36 (by decide) lk3 (fun _ h9 => h9) rfl dX12_says_76 ?_
          refine lv_iload_n hx hb dX12_says_79 rfl (lv_at hl 3 rfl) ?_
          refine lv_dup2_11 hx hb dX12_says_80 rfl rfl ?_
          refine va_iald hx hb hK.1 hP 3 0 rfl rfl (t_in (by omega) (by omega)) dX12_says_81 ?_
          refine lv_topi (fun y_9 ey_9 => ?_)
          refine lv_iconst (v := 1) hx hb dX12_says_82 (by decide) ?_
          refine lv_iadd hx hb dX12_says_83 ?_
          refine lv_topi (fun x_10 ex_10 => ?_)
          refine va_iast hx hb hK.1 hP hD hS 3 0 rfl rfl (t_in (by omega) (by omega)) dX12_says_84 (fun H locs hP hD hS => ?_)
          obtain ⟨g_11, eg_11⟩ : ∃ z : Nat → Int32, z = upd f_masses ((d : Int32).toNatClampNeg) x_10 := ⟨_, rfl⟩
          rw [← eg_11] at hP hD
          have hP : va_P D vwCl [(h, .inr (11, [.int v_today, .int v_monks, .int v_aways, .int v_feasts, .int v_gifts, .int v_leaves, .int v_lates, .int v_store, .int v_allCandles, .ref a_isPriest, .ref a_bars, .ref a_joined, .ref a_turns, .ref a_awayMonk, .ref a_awayFrom, .ref a_awayTo, .ref a_feastDay, .ref a_rank, .ref a_isWeekly, .ref a_isDouble, .ref a_giftDay, .ref a_giftFrom, .ref a_owed, .ref a_said, .ref a_spared, .ref a_leaveGift, .ref a_leaveFrom, .ref a_leaveTo, .ref a_lateDay, .ref a_lateOffice, .ref a_lateBy, .ref a_guests, .ref a_who, .ref a_used, .ref a_lacks, .ref a_candles, .ref a_masses, .ref a_owing, .ref a_heldOn, .ref a_waits, .ref a_tape, .ref a_text, .int v_taped, .int v_size, .int v_at, .int v_fault, .int v_rules, .ref a_statements, .ref a_taken, .ref a_sort, .ref a_first, .ref a_second, .int v_wordEnd, .int v_number])), (a_owed, .inl (cI, 40, .inl go1)), (a_said, .inl (cI, 40, .inl gs1)), (a_masses, .inl (cI, 1095, .inl g_11))] H := hP
          have hD : va_D A [(h, .inr (11, [.int v_today, .int v_monks, .int v_aways, .int v_feasts, .int v_gifts, .int v_leaves, .int v_lates, .int v_store, .int v_allCandles, .ref a_isPriest, .ref a_bars, .ref a_joined, .ref a_turns, .ref a_awayMonk, .ref a_awayFrom, .ref a_awayTo, .ref a_feastDay, .ref a_rank, .ref a_isWeekly, .ref a_isDouble, .ref a_giftDay, .ref a_giftFrom, .ref a_owed, .ref a_said, .ref a_spared, .ref a_leaveGift, .ref a_leaveFrom, .ref a_leaveTo, .ref a_lateDay, .ref a_lateOffice, .ref a_lateBy, .ref a_guests, .ref a_who, .ref a_used, .ref a_lacks, .ref a_candles, .ref a_masses, .ref a_owing, .ref a_heldOn, .ref a_waits, .ref a_tape, .ref a_text, .int v_taped, .int v_size, .int v_at, .int v_fault, .int v_rules, .ref a_statements, .ref a_taken, .ref a_sort, .ref a_first, .ref a_second, .int v_wordEnd, .int v_number])), (a_owed, .inl (cI, 40, .inl go1)), (a_said, .inl (cI, 40, .inl gs1)), (a_masses, .inl (cI, 1095, .inl g_11))] := hD
          exact hret (go1, gs1, g_11) _ _ _ _ (show SayS v_gifts.toInt f_owed f_said go1 gs1 from by rw [show v_gifts.toInt = j.toInt by omega]; first | exact ⟨a, hpk, Or.inl ⟨by omega, rfl, rfl⟩⟩ | exact ⟨a, hpk, Or.inr ⟨by omega, by rw [ego1, ego2, ego3], by rw [egs1, egs2, egs3]⟩⟩) (hP.sub [0, 1, 2, 3] rfl) (hD.sub [0, 1, 2, 3] (by decide +kernel) rfl) hS dX12_says_85
        · have tc_2 := t_eq c_2
          exact hret (f_owed, f_said, f_masses) _ _ _ _ (show SayS v_gifts.toInt f_owed f_said f_owed f_said from by rw [show v_gifts.toInt = j.toInt by omega]; first | exact ⟨a, hpk, Or.inl ⟨by omega, rfl, rfl⟩⟩ | exact ⟨a, hpk, Or.inr ⟨by omega, by rw [ego1, ego2, ego3], by rw [egs1, egs2, egs3]⟩⟩) (hP.sub [0, 1, 2, 3] rfl) (hD.sub [0, 1, 2, 3] (by decide +kernel) rfl) hS dX12_says_54
      · have tc_1 := t_nle c_1
        refine lv_aload_n hx hb dX12_says_12 rfl (lv_at hl 2 rfl) ?_
        refine va_get (D := D) (ci := 11) (v := .ref a_owed) (C := RX12) (T := TX12) (N := 54) hx hb hts in_e_says_X12 hown hK.1 hP 0 rfl rfl 22 (by decide) lk1 (fun _ h9 => h9) rfl dX12_says_13 ?_
        refine lv_iload_n hx hb dX12_says_16 rfl (lv_at hl 0 rfl) ?_
        refine va_iald hx hb hK.1 hP 1 0 rfl rfl (t_in (by omega) (by omega)) dX12_says_17 ?_
        refine lv_topi (fun y0 ey0 => ?_)
        refine lv_if_le (tgt := 43) hx hb dX12_says_18 (by decide) (fun c_13 => ?_) (fun c_13 => ?_)
        · have tc_13 := t_le c_13
          obtain ⟨x_14, ex_14⟩ : ∃ y : Int32, y = j + 1 := ⟨_, rfl⟩
          refine lv_iinc (v := x_14) (lv' := [(3, .int x_14), (2, .int a), (0, .ref h), (1, .int d)]) hx hb dX12_says_43 hl (k := 0) rfl (by rw [ex_14]; rfl) (by decide) rfl (fun ls hl => ?_)
          first | have tx_14 := t_add ex_14 (by omega) (by omega) | skip
          refine lv_goto (tgt := 4) hx hb dX12_says_46 (by decide) ?_
          exact ih4 a x_14 (by omega) (by omega) (by omega) (by first | exact hpk.take (by omega) (by omega) (by show 0 < (f_owed _).toInt; rw [← ey0]; omega) (by first | exact Or.inl (by omega) | exact Or.inr (by show -(f_owed _).toInt < -(f_owed _).toInt; rw [← ey1, ← ey2]; omega)) | exact hpk.skip (by omega) (by omega) (fun h => by have h : 0 < (f_owed j.toNatClampNeg).toInt := h; rw [← ey0] at h; omega) | exact hpk.keep (by omega) (by omega) (by omega) (by show -(f_owed _).toInt ≤ -(f_owed _).toInt; rw [← ey1, ← ey2]; omega)) _ _ hP hD hS ls (lv_sub hl [0, 1, 2, 3] rfl)
        · have tc_13 := t_nle c_13
          refine lv_iload_n hx hb dX12_says_21 rfl (lv_at hl 1 rfl) ?_
          refine lv_iconst (v := (-1)) hx hb dX12_says_22 (by decide) ?_
          refine lv_icmp_eq (tgt := 41) hx hb dX12_says_23 (by decide) (fun c_15 => ?_) (fun c_15 => ?_)
          · have tc_15 := t_eq c_15
            refine lv_iload_n hx hb dX12_says_41 rfl (lv_at hl 0 rfl) ?_
            refine lv_istore_n (lv' := [(2, .int j), (3, .int j), (0, .ref h), (1, .int d)]) hx hb dX12_says_42 rfl hl (by decide) rfl (fun ls hl => ?_)
            obtain ⟨x_16, ex_16⟩ : ∃ y : Int32, y = j + 1 := ⟨_, rfl⟩
            refine lv_iinc (v := x_16) (lv' := [(3, .int x_16), (2, .int j), (0, .ref h), (1, .int d)]) hx hb dX12_says_43 hl (k := 1) rfl (by rw [ex_16]; rfl) (by decide) rfl (fun ls hl => ?_)
            first | have tx_16 := t_add ex_16 (by omega) (by omega) | skip
            refine lv_goto (tgt := 4) hx hb dX12_says_46 (by decide) ?_
            exact ih4 j x_16 (by omega) (by omega) (by omega) (by first | exact hpk.take (by omega) (by omega) (by show 0 < (f_owed _).toInt; rw [← ey0]; omega) (by first | exact Or.inl (by omega) | exact Or.inr (by show -(f_owed _).toInt < -(f_owed _).toInt; rw [← ey1, ← ey2]; omega)) | exact hpk.skip (by omega) (by omega) (fun h => by have h : 0 < (f_owed j.toNatClampNeg).toInt := h; rw [← ey0] at h; omega) | exact hpk.keep (by omega) (by omega) (by omega) (by show -(f_owed _).toInt ≤ -(f_owed _).toInt; rw [← ey1, ← ey2]; omega)) _ _ hP hD hS ls (lv_sub hl [0, 1, 2, 3] rfl)
          · have tc_15 := t_neq c_15
            refine lv_aload_n hx hb dX12_says_26 rfl (lv_at hl 2 rfl) ?_
            refine va_get (D := D) (ci := 11) (v := .ref a_owed) (C := RX12) (T := TX12) (N := 54) hx hb hts in_e_says_X12 hown hK.1 hP 0 rfl rfl 22 (by decide) lk1 (fun _ h9 => h9) rfl dX12_says_27 ?_
            refine lv_iload_n hx hb dX12_says_30 rfl (lv_at hl 0 rfl) ?_
            refine va_iald hx hb hK.1 hP 1 0 rfl rfl (t_in (by omega) (by omega)) dX12_says_31 ?_
            refine lv_topi (fun y1 ey1 => ?_)
            refine lv_aload_n hx hb dX12_says_32 rfl (lv_at hl 2 rfl) ?_
            refine va_get (D := D) (ci := 11) (v := .ref a_owed) (C := RX12) (T := TX12) (N := 54) hx hb hts in_e_says_X12 hown hK.1 hP 0 rfl rfl 22 (by decide) lk1 (fun _ h9 => h9) rfl dX12_says_33 ?_
            refine lv_iload_n hx hb dX12_says_36 rfl (lv_at hl 1 rfl) ?_
            refine va_iald hx hb hK.1 hP 1 0 rfl rfl (t_in (by omega) (by omega)) dX12_says_37 ?_
            refine lv_topi (fun y2 ey2 => ?_)
            refine lv_icmp_le (tgt := 43) hx hb dX12_says_38 (by decide) (fun c_19 => ?_) (fun c_19 => ?_)
            · have tc_19 := t_le c_19
              obtain ⟨x_20, ex_20⟩ : ∃ y : Int32, y = j + 1 := ⟨_, rfl⟩
              refine lv_iinc (v := x_20) (lv' := [(3, .int x_20), (2, .int a), (0, .ref h), (1, .int d)]) hx hb dX12_says_43 hl (k := 0) rfl (by rw [ex_20]; rfl) (by decide) rfl (fun ls hl => ?_)
              first | have tx_20 := t_add ex_20 (by omega) (by omega) | skip
              refine lv_goto (tgt := 4) hx hb dX12_says_46 (by decide) ?_
              exact ih4 a x_20 (by omega) (by omega) (by omega) (by first | exact hpk.take (by omega) (by omega) (by show 0 < (f_owed _).toInt; rw [← ey0]; omega) (by first | exact Or.inl (by omega) | exact Or.inr (by show -(f_owed _).toInt < -(f_owed _).toInt; rw [← ey1, ← ey2]; omega)) | exact hpk.skip (by omega) (by omega) (fun h => by have h : 0 < (f_owed j.toNatClampNeg).toInt := h; rw [← ey0] at h; omega) | exact hpk.keep (by omega) (by omega) (by omega) (by show -(f_owed _).toInt ≤ -(f_owed _).toInt; rw [← ey1, ← ey2]; omega)) _ _ hP hD hS ls (lv_sub hl [0, 1, 2, 3] rfl)
            · have tc_19 := t_nle c_19
              refine lv_iload_n hx hb dX12_says_41 rfl (lv_at hl 0 rfl) ?_
              refine lv_istore_n (lv' := [(2, .int j), (3, .int j), (0, .ref h), (1, .int d)]) hx hb dX12_says_42 rfl hl (by decide) rfl (fun ls hl => ?_)
              obtain ⟨x_21, ex_21⟩ : ∃ y : Int32, y = j + 1 := ⟨_, rfl⟩
              refine lv_iinc (v := x_21) (lv' := [(3, .int x_21), (2, .int j), (0, .ref h), (1, .int d)]) hx hb dX12_says_43 hl (k := 1) rfl (by rw [ex_21]; rfl) (by decide) rfl (fun ls hl => ?_)
              first | have tx_21 := t_add ex_21 (by omega) (by omega) | skip
              refine lv_goto (tgt := 4) hx hb dX12_says_46 (by decide) ?_
              exact ih4 j x_21 (by omega) (by omega) (by omega) (by first | exact hpk.take (by omega) (by omega) (by show 0 < (f_owed _).toInt; rw [← ey0]; omega) (by first | exact Or.inl (by omega) | exact Or.inr (by show -(f_owed _).toInt < -(f_owed _).toInt; rw [← ey1, ← ey2]; omega)) | exact hpk.skip (by omega) (by omega) (fun h => by have h : 0 < (f_owed j.toNatClampNeg).toInt := h; rw [← ey0] at h; omega) | exact hpk.keep (by omega) (by omega) (by omega) (by show -(f_owed _).toInt ≤ -(f_owed _).toInt; rw [← ey1, ← ey2]; omega)) _ _ hP hD hS ls (lv_sub hl [0, 1, 2, 3] rfl)
  exact loop4 ((v_gifts.toInt - (0 : Int32).toInt).toNat + 1) (-1) 0 (by omega) (by omega) (by omega) (IsPick.zero (by omega) (by omega)) _ _ hP hD hS ls (lv_sub hl [0, 1, 2, 3] rfl)

