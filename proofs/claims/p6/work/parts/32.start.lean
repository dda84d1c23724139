theorem nwM_in : ∀ q ∈ nwM, Cond.methodLinkNest q.1 q.2.1 q.2.2.1 q.2.2.2 ∈ lw_tbl := List.forall_mem_cons.mpr ⟨List.mem_of_getElem? (i := 83) (by decide +kernel), List.forall_mem_cons.mpr ⟨List.mem_of_getElem? (i := 103) (by decide +kernel), List.forall_mem_cons.mpr ⟨List.mem_of_getElem? (i := 131) (by decide +kernel), List.forall_mem_cons.mpr ⟨List.mem_of_getElem? (i := 145) (by decide +kernel), List.forall_mem_cons.mpr ⟨List.mem_of_getElem? (i := 202) (by decide +kernel), List.forall_mem_cons.mpr ⟨List.mem_of_getElem? (i := 227) (by decide +kernel), List.forall_mem_cons.mpr ⟨List.mem_of_getElem? (i := 259) (by decide +kernel), List.forall_mem_cons.mpr ⟨List.mem_of_getElem? (i := 288) (by decide +kernel), List.forall_mem_cons.mpr ⟨List.mem_of_getElem? (i := 442) (by decide +kernel), List.forall_mem_cons.mpr ⟨List.mem_of_getElem? (i := 813) (by decide +kernel), List.forall_mem_cons.mpr ⟨List.mem_of_getElem? (i := 796) (by decide +kernel), List.forall_mem_cons.mpr ⟨List.mem_of_getElem? (i := 151) (by decide +kernel), fun _ h => absurd h List.not_mem_nil⟩⟩⟩⟩⟩⟩⟩⟩⟩⟩⟩⟩
theorem nwF_in : ∀ q ∈ nwF, Cond.fieldLinkNest q.1 q.2.1 q.2.2.1 q.2.2.2.1 q.2.2.2.2.1 q.2.2.2.2.2 ∈ lw_tbl := List.forall_mem_cons.mpr ⟨List.mem_of_getElem? (i := 179) (by decide +kernel), List.forall_mem_cons.mpr ⟨List.mem_of_getElem? (i := 173) (by decide +kernel), List.forall_mem_cons.mpr ⟨List.mem_of_getElem? (i := 175) (by decide +kernel), List.forall_mem_cons.mpr ⟨List.mem_of_getElem? (i := 177) (by decide +kernel), fun _ h => absurd h List.not_mem_nil⟩⟩⟩⟩
set_option maxHeartbeats 8000000 in
set_option maxRecDepth 100000 in
theorem kk_start {s : State} {A : Array Value} (hts : ∀ w ∈ lw_tbl, w.before A s = true) : ∃ (D : va_G) (cI cZ cB : ClassId), KK D cI cZ cB s := by
  obtain ⟨c0, i0, h0⟩ := u_known (C := RX0) (T := TX0) (N := 4) (n := 4) hts inX0 (hts (.instantiable RX0 4) (List.mem_of_getElem? (i := 82) (by decide +kernel)))
  obtain ⟨c1, i1, h1⟩ := u_known (C := RX1) (T := TX1) (N := 2) (n := 2) hts inX1 (hts (.instantiable RX1 2) (List.mem_of_getElem? (i := 264) (by decide +kernel)))
  obtain ⟨c2, i2, h2⟩ := u_known (C := RX2) (T := TX2) (N := 2) (n := 2) hts inX2 (hts (.instantiable RX2 2) (List.mem_of_getElem? (i := 258) (by decide +kernel)))
  obtain ⟨c3, i3, h3⟩ := u_known (C := RX3) (T := TX3) (N := 7) (n := 7) hts inX3 (hts (.instantiable RX3 7) (List.mem_of_getElem? (i := 102) (by decide +kernel)))
  obtain ⟨c4, i4, h4⟩ := u_known (C := RX4) (T := TX4) (N := 11) (n := 11) hts inX4 (hts (.instantiable RX4 11) (List.mem_of_getElem? (i := 287) (by decide +kernel)))
  obtain ⟨c5, i5, h5⟩ := u_known (C := RX5) (T := TX5) (N := 8) (n := 8) hts inX5 (hts (.instantiable RX5 8) (List.mem_of_getElem? (i := 226) (by decide +kernel)))
  obtain ⟨c6, i6, h6⟩ := u_known (C := RX6) (T := TX6) (N := 8) (n := 8) hts inX6 (hts (.instantiable RX6 8) (List.mem_of_getElem? (i := 144) (by decide +kernel)))
  obtain ⟨c7, i7, h7⟩ := u_known (C := RX7) (T := TX7) (N := 6) (n := 6) hts inX7 (hts (.instantiable RX7 6) (List.mem_of_getElem? (i := 201) (by decide +kernel)))
  obtain ⟨c8, i8, h8⟩ := u_known (C := RX9) (T := TX9) (N := 2) (n := 2) hts inX9 (hts (.instantiable RX9 2) (List.mem_of_getElem? (i := 130) (by decide +kernel)))
  obtain ⟨c9, i9, h9⟩ := u_known (C := RX10) (T := TX10) (N := 5) (n := 5) hts inX10 (hts (.instantiable RX10 5) (List.mem_of_getElem? (i := 150) (by decide +kernel)))
  obtain ⟨c10, i10, h10⟩ := u_known (C := RX11) (T := TX11) (N := 15) (n := 15) hts inX11 (hts (.instantiable RX11 15) (List.mem_of_getElem? (i := 74) (by decide +kernel)))
  obtain ⟨c11, i11, h11⟩ := u_known (C := RX12) (T := TX12) (N := 54) (n := 54) hts inX12 (hts (.instantiable RX12 54) (List.mem_of_getElem? (i := 910) (by decide +kernel)))
  obtain ⟨cI, kI, pI, aI, bI, dI⟩ := Cond.arrayClass_spec (hts (.arrayClass .int) (List.mem_of_getElem? (i := 100) (by decide +kernel)))
  obtain ⟨cZ, kZ, pZ, aZ, bZ, dZ⟩ := Cond.arrayClass_spec (hts (.arrayClass .boolean) (List.mem_of_getElem? (i := 256) (by decide +kernel)))
  obtain ⟨cB, kB, pB, aB, bB, dB⟩ := Cond.arrayClass_spec (hts (.arrayClass .byte) (List.mem_of_getElem? (i := 142) (by decide +kernel)))
  refine ⟨(fun k => match k with | 0 => c0 | 1 => c1 | 2 => c2 | 3 => c3 | 4 => c4 | 5 => c5 | 6 => c6 | 7 => c7 | 8 => c8 | 9 => c9 | 10 => c10 | _ => c11, fun k => match k with | 0 => i0 | 1 => i1 | 2 => i2 | 3 => i3 | 4 => i4 | 5 => i5 | 6 => i6 | 7 => i7 | 8 => i8 | 9 => i9 | 10 => i10 | _ => i11), cI, cZ, cB, ⟨fun c q hq => ?_, fun k q hq => ?_⟩, fun q hq => va_Nw.of rfl (hts _ (nwM_in q hq)), fun q hq => va_Nw.of rfl (hts _ (nwF_in q hq))⟩
  · match c, hq with
    | 0, hq => cases hq; exact h0
    | 1, hq => cases hq; exact h1
    | 2, hq => cases hq; exact h2
    | 3, hq => cases hq; exact h3
    | 4, hq => cases hq; exact h4
    | 5, hq => cases hq; exact h5
    | 6, hq => cases hq; exact h6
    | 7, hq => cases hq; exact h7
    | 8, hq => cases hq; exact h8
    | 9, hq => cases hq; exact h9
    | 10, hq => cases hq; exact h10
    | 11, hq => cases hq; exact h11
    | k + 12, hq => simp [vwCl] at hq
  · match k, hq with
    | 0, hq => cases hq; exact ⟨fun n z => ⟨fun k h => (by cases h), kI, bI, pI, dI⟩, aI⟩
    | 1, hq => cases hq; exact ⟨fun n z => ⟨fun k h => (by cases h), kZ, bZ, pZ, dZ⟩, aZ⟩
    | 2, hq => cases hq; exact ⟨fun n z => ⟨fun k h => (by cases h), kB, bB, pB, dB⟩, aB⟩
    | k + 3, hq => simp [tys3] at hq
