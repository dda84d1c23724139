/-! my own rows: the nest words, the world's constants, contracts that only read and contracts that write, calls -/
def nwM : List (String × Nat × MethodName × String) := [("AbbeyHours", 9, yX0_init, "AbbeyHours"), ("AbbeyHours", 18, yX3_init, "AbbeyHours"), ("AbbeyHours", 25, yX9_init, "AbbeyHours"), ("AbbeyHours", 32, yX6_init, "AbbeyHours"), ("AbbeyHours", 39, yX7_init, "AbbeyHours"), ("AbbeyHours", 46, yX5_init, "AbbeyHours"), ("AbbeyHours", 53, yX2_init, "AbbeyHours"), ("AbbeyHours", 60, yX4_init, "AbbeyHours"), ("AbbeyHours$Feasts", 37, yX11_isDayOfYear, "AbbeyHours"), ("AbbeyHours$Gifts", 66, yX11_within, "AbbeyHours"), ("AbbeyHours$Monks", 42, yX11_within, "AbbeyHours"), ("AbbeyHours$RuleReader", 11, yX10_init, "AbbeyHours")]
def nwF : List (String × Nat × String × String × String × String) := [("AbbeyHours$Rules", 37, "AbbeyHours$RuleReader", "size", "I", "AbbeyHours"), ("AbbeyHours$Rules", 38, "AbbeyHours$RuleReader", "kinds", "[I", "AbbeyHours"), ("AbbeyHours$Rules", 39, "AbbeyHours$RuleReader", "firsts", "[I", "AbbeyHours"), ("AbbeyHours$Rules", 40, "AbbeyHours$RuleReader", "seconds", "[I", "AbbeyHours")]
def NW (U : State) : Prop := (∀ q ∈ nwM, va_Nw (.methodLinkNest q.1 q.2.1 q.2.2.1 q.2.2.2) U) ∧ ∀ q ∈ nwF, va_Nw (.fieldLinkNest q.1 q.2.1 q.2.2.1 q.2.2.2.1 q.2.2.2.2.1 q.2.2.2.2.2) U
def tys3 (cI cZ cB : ClassId) : List (ClassId × FieldType) := [(cI, .int), (cZ, .boolean), (cB, .byte)]
def KK (D : va_G) (cI cZ cB : ClassId) (U : State) : Prop := va_K D vwCl (tys3 cI cZ cB) U ∧ NW U
theorem KK.warm {D : va_G} {cI cZ cB : ClassId} {s U : State} (hW : s.WarmedH U.vm) (h : KK D cI cZ cB s) : KK D cI cZ cB U :=
  ⟨va_K.moved hW.alike h.1, fun q hq => va_Nw.warmM hW (h.2.1 q hq), fun q hq => va_Nw.warmF hW (h.2.2 q hq)⟩
theorem KK.call {D : va_G} {cI cZ cB : ClassId} {U : State} {g : JFrame} {mk : MethodId} {a : Array Value} (h : KK D cI cZ cB U) : KK D cI cZ cB (U.calling g mk a) :=
  ⟨va_K.moved (u := U) (U := U.calling g mk a) (Vm.Alike.refl U.vm) h.1, fun q hq => va_Nw.same rfl rfl (h.2.1 q hq), fun q hq => va_Nw.same rfl rfl (h.2.2 q hq)⟩
/-- a method that only reads -/
abbrev RO (D : va_G) (cI cZ cB : ClassId) (as : List Value) (wc : va_W) : Array Value → State → Prop := va_Pc as (fun U => va_P D vwCl wc U.heap ∧ KK D cI cZ cB U)
/-- a method that writes: the world's cells wc are apart -/
abbrev RW (D : va_G) (cI cZ cB : ClassId) (as : List Value) (sz : Nat) (wc : va_W) : Array Value → State → Prop := va_Pc as (fun U => U.heap.size = sz ∧ va_P D vwCl wc U.heap ∧ KK D cI cZ cB U ∧ va_D (fun _ => True) wc)
def BW (D : va_G) (wc : va_W) (sz : Nat) {S : Type} (w1 : S → va_W) : S → State → Prop := fun u t => va_P D vwCl (w1 u) t.heap ∧ va_D (va_A wc sz) (w1 u)
theorem fb_ro {D : va_G} {cI cZ cB : ClassId} {as : List Value} {wc : va_W} : FrameBlind (RO D cI cZ cB as wc) := fun _ _ _ _ q => ⟨q.1, q.2.1, q.2.2.call⟩
theorem fb_rw {D : va_G} {cI cZ cB : ClassId} {as : List Value} {sz : Nat} {wc : va_W} : FrameBlind (RW D cI cZ cB as sz wc) := fun _ _ _ _ q => ⟨q.1, q.2.1, q.2.2.1, q.2.2.2.1.call, q.2.2.2.2⟩
theorem ro_of {l : Launch} {y : MethodName} {ws ws' : List Cond} {rm : Room} {D : va_G} {cI cZ cB : ClassId} {as : List Value} {wc : va_W} {Qc : Array Value → State → Outcome → State → Prop} {cc : ByteArray} {maxL : Nat} {ret : Option FieldType} {own : String}
    (hy : plainName y.cls = true) (hw : ws = Cond.code y cc maxL ret :: ws') (ho : y.cls = own) (hn : (lg_sl as).length ≤ maxL)
    (body : ∀ (p : Program) (e : Env) (s : State) (m : MethodId) (below : List Frame) (meth : Method) (c : Code), CallFix p m c cc maxL s as.toArray ws own → meth.sig.returnType = ret → meth.locks = false → va_P D vwCl wc s.heap → KK D cI cZ cB s → ∀ ls : Array Slot, lv_has ls maxL (lv_args 0 as) → W p l e rm s m as.toArray below meth c s.heap [] 0 0 (MQ below Qc as.toArray s 0 0 (fun _ => False)) (F0 m 0 ls [])) :
    Met l y ws rm (RO D cI cZ cB as wc) Qc 0 0 (fun _ => False) := by
  refine Met.ofW (cc := cc) (maxL := maxL) (ret := ret) hy hw ?_
  intro p e s m args below meth c s₁ B hml hv
  obtain ⟨rfl, hP, hK⟩ := hv
  have hl := lv_entry as (n := maxL) hn
  rw [lg_entry_eq]
  generalize (lg_sl as ++ List.replicate (maxL - (lg_sl as).length) Slot.unset).toArray = ls at hl ⊢
  exact body p e s m below meth c ⟨B.exec, B.bytes, hml, by rw [← ho]; exact findClass_of_methodNamed B.named, atoms_spec (ws := ws) B.pre⟩ B.returns B.notSynchronized hP hK ls hl
theorem rw_of {l : Launch} {y : MethodName} {ws ws' : List Cond} {rm : Room} {D : va_G} {cI cZ cB : ClassId} {as : List Value} {sz : Nat} {wc : va_W} {Qc : Array Value → State → Outcome → State → Prop} {cc : ByteArray} {maxL mc ms : Nat} {ret : Option FieldType} {own : String}
    (hy : plainName y.cls = true) (hw : ws = Cond.code y cc maxL ret :: ws') (ho : y.cls = own) (hn : (lg_sl as).length ≤ maxL)
    (body : ∀ (p : Program) (e : Env) (s : State) (m : MethodId) (below : List Frame) (meth : Method) (c : Code), CallFix p m c cc maxL s as.toArray ws own → meth.sig.returnType = ret → meth.locks = false → meth.name = y.name → va_P D vwCl wc s.heap → KK D cI cZ cB s → va_D (va_A wc sz) wc → (∀ q : Nat, s.heap.size ≤ q → va_A wc sz q) → va_S (va_A wc sz) s.heap s.heap [] → ∀ ls : Array Slot, lv_has ls maxL (lv_args 0 as) → W p l e rm s m as.toArray below meth c s.heap [] 0 0 (MQ below Qc as.toArray s mc ms (va_A wc sz)) (F0 m 0 ls [])) :
    Met l y ws rm (RW D cI cZ cB as sz wc) Qc mc ms (va_A wc sz) := by
  refine Met.ofW (cc := cc) (maxL := maxL) (ret := ret) hy hw ?_
  intro p e s m args below meth c s₁ B hml hv
  obtain ⟨rfl, hsz, hP, hK, hD⟩ := hv
  have hl := lv_entry as (n := maxL) hn
  rw [lg_entry_eq]
  generalize (lg_sl as ++ List.replicate (maxL - (lg_sl as).length) Slot.unset).toArray = ls at hl ⊢
  subst hsz
  exact body p e s m below meth c ⟨B.exec, B.bytes, hml, by rw [← ho]; exact findClass_of_methodNamed B.named, atoms_spec (ws := ws) B.pre⟩ B.returns B.notSynchronized (name_of_methodNamed B.named B.method).1 hP hK hD.self (fun q h => Or.inr h) va_S.rf ls hl
section CALLS
variable {p : Program} {l : Launch} {e : Env} {R : Room} {s : State} {m : MethodId} {args : Array Value} {below : List Frame} {meth : Method} {c : Code} {H : Heap} {locs : List Loc} {cells slots : Nat} {Q : State → Prop}
variable {y : MethodName} {bytes cc : ByteArray} {maxL nL n index : Nat} {ret : Option FieldType} {ws : List Cond} {rm : Room} {Ts : List Cond} {own C host : String} {b : Nat} {As rest st0 : List Value} {pc : Nat} {ls : Array Slot} {D : va_G} {cI cZ cB : ClassId} {wc : va_W} {post : Int32 → Prop}
theorem roV (S : CallFix p m c cc nL s args Ts own) (hM : Met l y ws rm (RO D cI cZ cB (.ref b :: As) wc) (vp_Si post) 0 0 (fun _ => False)) (cw : CallW R s args own C index y bytes maxL ret ws rm 0 0 n) (hK : KK D cI cZ cB s) (hP : va_P D vwCl wc H)
    (hv : ∃ cell : Cell, H[b]? = some cell ∧ cell.vm.isStatics = false ∧ s.vm.findClass C = some cell.cls) (hn : As.length = n) (hsize : ls.size = nL) (hst : st0 = As.reverse ++ .ref b :: rest) (hW : (rest.map fun v => v.category).sum ≤ 8) (hdg : decode cc pc = .ok (.invokevirtual index, 3)) (hf : cells ≤ R.cells ∧ slots ≤ R.slots)
    (kk : ∀ r : Int32, post r → W p l e R s m args below meth c H locs cells slots Q (F0 m (pc + 3) ls (.int r :: rest))) : W p l e R s m args below meth c H locs cells slots Q (F0 m pc ls st0) :=
  vp_callSi (W.runV S hM cw ⟨fb_ro, hv, fun U hU hW => ⟨rfl, by rw [hU]; exact hP, hK.warm hW⟩⟩ rfl hn hsize hst (lv_room hW) hdg hf) kk
theorem roS (S : CallFix p m c cc nL s args Ts own) (hM : Met l y ws rm (RO D cI cZ cB As wc) (vp_Si post) 0 0 (fun _ => False)) (cw : CallB R s args own index y bytes maxL ret ws rm 0 0 n ∧ (Cond.static y).before args s = true) (hK : KK D cI cZ cB s) (hP : va_P D vwCl wc H)
    (hn : As.length = n) (hsize : ls.size = nL) (hst : st0 = As.reverse ++ rest) (hW : (rest.map fun v => v.category).sum ≤ 8) (hdg : decode cc pc = .ok (.invokestatic index, 3)) (hf : cells ≤ R.cells ∧ slots ≤ R.slots)
    (kk : ∀ r : Int32, post r → W p l e R s m args below meth c H locs cells slots Q (F0 m (pc + 3) ls (.int r :: rest))) : W p l e R s m args below meth c H locs cells slots Q (F0 m pc ls st0) :=
  vp_callSi (W.runS S hM cw ⟨fb_ro, fun U hU hW => ⟨rfl, by rw [hU]; exact hP, hK.warm hW⟩⟩ rfl hn hsize hst (lv_room hW) hdg hf) kk
theorem roSN (S : CallFix p m c cc nL s args Ts own) (hM : Met l y ws rm (RO D cI cZ cB As wc) (vp_Si post) 0 0 (fun _ => False)) (cw : va_CN R s args own index y host bytes maxL ret ws rm 0 0 n ∧ (Cond.static y).before args s = true ∧ True) (hK : KK D cI cZ cB s) (hP : va_P D vwCl wc H)
    (hn : As.length = n) (hsize : ls.size = nL) (hst : st0 = As.reverse ++ rest) (hW : (rest.map fun v => v.category).sum ≤ 8) (hdg : decode cc pc = .ok (.invokestatic index, 3)) (hf : cells ≤ R.cells ∧ slots ≤ R.slots)
    (kk : ∀ r : Int32, post r → W p l e R s m args below meth c H locs cells slots Q (F0 m (pc + 3) ls (.int r :: rest))) : W p l e R s m args below meth c H locs cells slots Q (F0 m pc ls st0) :=
  vp_callSi (va_Run.run (va_runSN S hM cw ⟨fb_ro, fun U hU hW => ⟨rfl, by rw [hU]; exact hP, hK.warm hW⟩⟩ rfl hn hsize hst (lv_room hW) hdg hf)) kk
variable {A : Nat → Prop} {H0 : Heap} {W0 wr : va_W} {mc ms : Nat} {Sx : Type} {w1 : Sx → va_W} {postR : Int32 → Sx → Prop} {postV : Sx → Prop}
theorem rwV (S : CallFix p m c cc nL s args Ts own) (hM : Met l y ws rm (RW D cI cZ cB (.ref b :: As) H.size wc) (va_Qi postR (BW D wc H.size w1) (va_A wc H.size)) mc ms (va_A wc H.size)) (cw : CallW R s args own C index y bytes maxL ret ws rm mc ms n) (hK : KK D cI cZ cB s) (hP : va_P D vwCl W0 H) (hD : va_D A W0) (hS : va_S A H0 H locs) (hA : ∀ q, H0.size ≤ q → A q)
    (isC isR : List Nat) (hC : isC.map (fun i => W0[i]?) = wc.map some) (hR : isR.map (fun i => W0[i]?) = wr.map some) (hn1 : va_nd isC = true) (hn2 : va_nd isR = true) (hdis : ∀ i ∈ isR, i ∉ isC)
    (hv : ∃ cell : Cell, H[b]? = some cell ∧ cell.vm.isStatics = false ∧ s.vm.findClass C = some cell.cls) (hn : As.length = n) (hsize : ls.size = nL) (hst : st0 = As.reverse ++ .ref b :: rest) (hW : (rest.map fun v => v.category).sum ≤ 8) (hdg : decode cc pc = .ok (.invokevirtual index, 3)) (hf : cells + mc ≤ R.cells ∧ slots + ms ≤ R.slots)
    (kk : ∀ (r : Int32) (u : Sx) (H1 : Heap) (locs1 : List Loc), postR r u → va_P D vwCl (wr ++ w1 u) H1 → va_D A (wr ++ w1 u) → va_S A H0 H1 locs1 → W p l e R s m args below meth c H1 locs1 (cells + mc) (slots + ms) Q (F0 m (pc + 3) ls (.int r :: rest))) : W p l e R s m args below meth c H locs cells slots Q (F0 m pc ls st0) := by
  have hPc : va_P D vwCl wc H := fun k q hq => by
    have h1 : (isC.map (fun i => W0[i]?))[k]? = some (some q) := by rw [hC, List.getElem?_map, hq]; rfl
    rw [List.getElem?_map] at h1
    cases hi : isC[k]? with
    | none => rw [hi] at h1; cases h1
    | some i => rw [hi] at h1; exact hP i q (Option.some.inj h1)
  have hDc : va_D A wc := hD.sub isC hn1 hC
  have hFc := va_free (wc := wc) hD hS hA isC hC
  refine va_calli (va_runV S hM cw ⟨fb_rw, hv, fun U hU hW => ⟨rfl, by rw [hU], by rw [hU]; exact hPc, hK.warm hW, hDc.weaken (fun _ _ _ _ => trivial)⟩⟩ rfl hn hsize hst (lv_room hW) hdg hf) hS (fun q _ h => hFc q h) hFc (fun r u t H1 locs1 ht hvm hw hB hz1 hk1 hS1 => ?_)
  have hP1 := hB.1
  rw [ht] at hP1
  obtain ⟨hP2, hD2⟩ := va_join (wr := wr) (w1 := w1 u) hP hD isC isR hC hR hn2 hdis hk1 hFc hP1 hB.2
  exact kk r u H1 locs1 hw hP2 hD2 hS1
theorem rwVv (S : CallFix p m c cc nL s args Ts own) (hM : Met l y ws rm (RW D cI cZ cB (.ref b :: As) H.size wc) (va_Qv postV (BW D wc H.size w1) (va_A wc H.size)) mc ms (va_A wc H.size)) (cw : CallW R s args own C index y bytes maxL ret ws rm mc ms n) (hK : KK D cI cZ cB s) (hP : va_P D vwCl W0 H) (hD : va_D A W0) (hS : va_S A H0 H locs) (hA : ∀ q, H0.size ≤ q → A q)
    (isC isR : List Nat) (hC : isC.map (fun i => W0[i]?) = wc.map some) (hR : isR.map (fun i => W0[i]?) = wr.map some) (hn1 : va_nd isC = true) (hn2 : va_nd isR = true) (hdis : ∀ i ∈ isR, i ∉ isC)
    (hv : ∃ cell : Cell, H[b]? = some cell ∧ cell.vm.isStatics = false ∧ s.vm.findClass C = some cell.cls) (hn : As.length = n) (hsize : ls.size = nL) (hst : st0 = As.reverse ++ .ref b :: rest) (hW : (rest.map fun v => v.category).sum ≤ 8) (hdg : decode cc pc = .ok (.invokevirtual index, 3)) (hf : cells + mc ≤ R.cells ∧ slots + ms ≤ R.slots)
    (kk : ∀ (u : Sx) (H1 : Heap) (locs1 : List Loc), postV u → va_P D vwCl (wr ++ w1 u) H1 → va_D A (wr ++ w1 u) → va_S A H0 H1 locs1 → W p l e R s m args below meth c H1 locs1 (cells + mc) (slots + ms) Q (F0 m (pc + 3) ls rest)) : W p l e R s m args below meth c H locs cells slots Q (F0 m pc ls st0) := by
  have hPc : va_P D vwCl wc H := fun k q hq => by
    have h1 : (isC.map (fun i => W0[i]?))[k]? = some (some q) := by rw [hC, List.getElem?_map, hq]; rfl
    rw [List.getElem?_map] at h1
    cases hi : isC[k]? with
    | none => rw [hi] at h1; cases h1
    | some i => rw [hi] at h1; exact hP i q (Option.some.inj h1)
  have hDc : va_D A wc := hD.sub isC hn1 hC
  have hFc := va_free (wc := wc) hD hS hA isC hC
  refine va_callv (va_runV S hM cw ⟨fb_rw, hv, fun U hU hW => ⟨rfl, by rw [hU], by rw [hU]; exact hPc, hK.warm hW, hDc.weaken (fun _ _ _ _ => trivial)⟩⟩ rfl hn hsize hst (lv_room hW) hdg hf) hS (fun q _ h => hFc q h) hFc (fun u t H1 locs1 ht hvm hw hB hz1 hk1 hS1 => ?_)
  have hP1 := hB.1
  rw [ht] at hP1
  obtain ⟨hP2, hD2⟩ := va_join (wr := wr) (w1 := w1 u) hP hD isC isR hC hR hn2 hdis hk1 hFc hP1 hB.2
  exact kk u H1 locs1 hw hP2 hD2 hS1
theorem rwI (S : CallFix p m c cc nL s args Ts own) (hM : Met l y ws rm (RW D cI cZ cB (.ref b :: As) H.size wc) (va_Qv postV (BW D wc H.size w1) (va_A wc H.size)) mc ms (va_A wc H.size)) (cw : CallB R s args own index y bytes maxL none ws rm mc ms n ∧ y.name = "<init>" ∧ (Cond.instanceMethod y).before args s = true) (hK : KK D cI cZ cB s) (hP : va_P D vwCl W0 H) (hD : va_D A W0) (hS : va_S A H0 H locs) (hA : ∀ q, H0.size ≤ q → A q)
    (isC isR : List Nat) (hC : isC.map (fun i => W0[i]?) = wc.map some) (hR : isR.map (fun i => W0[i]?) = wr.map some) (hn1 : va_nd isC = true) (hn2 : va_nd isR = true) (hdis : ∀ i ∈ isR, i ∉ isC)
    (hn : As.length = n) (hsize : ls.size = nL) (hst : st0 = As.reverse ++ .ref b :: rest) (hW : (rest.map fun v => v.category).sum ≤ 8) (hdg : decode cc pc = .ok (.invokespecial index, 3)) (hf : cells + mc ≤ R.cells ∧ slots + ms ≤ R.slots)
    (kk : ∀ (u : Sx) (H1 : Heap) (locs1 : List Loc), postV u → va_P D vwCl (wr ++ w1 u) H1 → va_D A (wr ++ w1 u) → va_S A H0 H1 locs1 → W p l e R s m args below meth c H1 locs1 (cells + mc) (slots + ms) Q (F0 m (pc + 3) ls rest)) : W p l e R s m args below meth c H locs cells slots Q (F0 m pc ls st0) := by
  have hPc : va_P D vwCl wc H := fun k q hq => by
    have h1 : (isC.map (fun i => W0[i]?))[k]? = some (some q) := by rw [hC, List.getElem?_map, hq]; rfl
    rw [List.getElem?_map] at h1
    cases hi : isC[k]? with
    | none => rw [hi] at h1; cases h1
    | some i => rw [hi] at h1; exact hP i q (Option.some.inj h1)
  have hDc : va_D A wc := hD.sub isC hn1 hC
  have hFc := va_free (wc := wc) hD hS hA isC hC
  refine va_callv (va_runI S hM cw ⟨fb_rw, fun U hU hW => ⟨rfl, by rw [hU], by rw [hU]; exact hPc, hK.warm hW, hDc.weaken (fun _ _ _ _ => trivial)⟩⟩ rfl hn hsize hst (lv_room hW) hdg hf) hS (fun q _ h => hFc q h) hFc (fun u t H1 locs1 ht hvm hw hB hz1 hk1 hS1 => ?_)
  have hP1 := hB.1
  rw [ht] at hP1
  obtain ⟨hP2, hD2⟩ := va_join (wr := wr) (w1 := w1 u) hP hD isC isR hC hR hn2 hdis hk1 hFc hP1 hB.2
  exact kk u H1 locs1 hw hP2 hD2 hS1
theorem rwIN (S : CallFix p m c cc nL s args Ts own) (hM : Met l y ws rm (RW D cI cZ cB (.ref b :: As) H.size wc) (va_Qv postV (BW D wc H.size w1) (va_A wc H.size)) mc ms (va_A wc H.size)) (cw : va_CN R s args own index y host bytes maxL none ws rm mc ms n ∧ y.name = "<init>" ∧ (Cond.instanceMethod y).before args s = true) (hK : KK D cI cZ cB s) (hP : va_P D vwCl W0 H) (hD : va_D A W0) (hS : va_S A H0 H locs) (hA : ∀ q, H0.size ≤ q → A q)
    (isC isR : List Nat) (hC : isC.map (fun i => W0[i]?) = wc.map some) (hR : isR.map (fun i => W0[i]?) = wr.map some) (hn1 : va_nd isC = true) (hn2 : va_nd isR = true) (hdis : ∀ i ∈ isR, i ∉ isC)
    (hn : As.length = n) (hsize : ls.size = nL) (hst : st0 = As.reverse ++ .ref b :: rest) (hW : (rest.map fun v => v.category).sum ≤ 8) (hdg : decode cc pc = .ok (.invokespecial index, 3)) (hf : cells + mc ≤ R.cells ∧ slots + ms ≤ R.slots)
    (kk : ∀ (u : Sx) (H1 : Heap) (locs1 : List Loc), postV u → va_P D vwCl (wr ++ w1 u) H1 → va_D A (wr ++ w1 u) → va_S A H0 H1 locs1 → W p l e R s m args below meth c H1 locs1 (cells + mc) (slots + ms) Q (F0 m (pc + 3) ls rest)) : W p l e R s m args below meth c H locs cells slots Q (F0 m pc ls st0) := by
  have hPc : va_P D vwCl wc H := fun k q hq => by
    have h1 : (isC.map (fun i => W0[i]?))[k]? = some (some q) := by rw [hC, List.getElem?_map, hq]; rfl
    rw [List.getElem?_map] at h1
    cases hi : isC[k]? with
    | none => rw [hi] at h1; cases h1
    | some i => rw [hi] at h1; exact hP i q (Option.some.inj h1)
  have hDc : va_D A wc := hD.sub isC hn1 hC
  have hFc := va_free (wc := wc) hD hS hA isC hC
  refine va_callv (va_runIN S hM cw ⟨fb_rw, fun U hU hW => ⟨rfl, by rw [hU], by rw [hU]; exact hPc, hK.warm hW, hDc.weaken (fun _ _ _ _ => trivial)⟩⟩ rfl hn hsize hst (lv_room hW) hdg hf) hS (fun q _ h => hFc q h) hFc (fun u t H1 locs1 ht hvm hw hB hz1 hk1 hS1 => ?_)
  have hP1 := hB.1
  rw [ht] at hP1
  obtain ⟨hP2, hD2⟩ := va_join (wr := wr) (w1 := w1 u) hP hD isC isR hC hR hn2 hdis hk1 hFc hP1 hB.2
  exact kk u H1 locs1 hw hP2 hD2 hS1
/-- a new array: its class is the one that the world knows -/
theorem newI (hx : p.tables.exec = Jvm.exec) (hb : c.code = cc) {atype : ArrayType} (harr : (Cond.arrayClass (newarray.typeOf atype)).before args s = true) {ty : FieldType} (hty : newarray.typeOf atype = ty) {cA : ClassId} (t0 : Nat) (ht : (tys3 cI cZ cB)[t0]? = some (cA, ty)) (hpr : ∀ x y, va_RA s x ty → va_RA s y ty → x = y)
    (hK : KK D cI cZ cB s) (hP : va_P D vwCl W0 H) (hD : va_D A W0) (hS : va_S A H0 H locs) (hA : ∀ q, H0.size ≤ q → A q)
    {k : Int32} {N' : Nat} (ha : ∀ cA : ClassId, vp_cell cA (N', .inl (fun _ => 0)) = arrV cA N' (fun _ => defaultValue ty)) (hn : ¬ k < 0) (hN : k.toNatClampNeg = N') (hbytes : N' * componentBytes ty ≤ 536870912) (hcells : cells + 1 ≤ R.cells) (hslots : slots + N' ≤ R.slots) (hdg : decode cc pc = .ok (.newarray atype, 2))
    (kk : ∀ (q : Nat) (H1 : Heap), va_P D vwCl (W0 ++ [(q, .inl (cA, N', .inl (fun _ => 0)))]) H1 → va_D A (W0 ++ [(q, .inl (cA, N', .inl (fun _ => 0)))]) → va_S A H0 H1 locs →
      W p l e R s m args below meth c H1 locs (cells + 1) (slots + N') Q (F0 m (pc + 2) ls (.ref q :: rest))) : W p l e R s m args below meth c H locs cells slots Q (F0 m pc ls (.int k :: rest)) := by
  refine va_newa (a0 := (N', .inl (fun _ => 0))) hx hb harr hty hK.1 hP hD hS hA ha hn hN hbytes hcells hslots hdg (fun q cA' H1 hK1 hP1 hD1 hS1 => ?_)
  have e1 : cA' = cA := by
    have h2 := (hK1.2 3 (cA', ty) (by rfl)).2
    exact hpr _ _ h2 (hK.1.2 t0 _ ht).2
  subst e1
  exact kk q H1 hP1 hD1 hS1
end CALLS
theorem ra_int {s : State} (x y : ClassId) (h1 : va_RA s x .int) (h2 : va_RA s y .int) : x = y := Option.some.inj (h1.symm.trans h2)
theorem ra_bool {s : State} (x y : ClassId) (h1 : va_RA s x .boolean) (h2 : va_RA s y .boolean) : x = y := Option.some.inj (h1.symm.trans h2)
theorem ra_byte {s : State} (x y : ClassId) (h1 : va_RA s x .byte) (h2 : va_RA s y .byte) : x = y := Option.some.inj (h1.symm.trans h2)
/-! numbers -/
theorem t_lt {x y : Int32} (h : x < y) : x.toInt < y.toInt := Int32.lt_iff_toInt_lt.mp h
theorem t_nlt {x y : Int32} (h : ¬ x < y) : y.toInt ≤ x.toInt := by rw [Int32.lt_iff_toInt_lt] at h; omega
theorem t_le {x y : Int32} (h : x ≤ y) : x.toInt ≤ y.toInt := Int32.le_iff_toInt_le.mp h
theorem t_nle {x y : Int32} (h : ¬ x ≤ y) : y.toInt < x.toInt := by rw [Int32.le_iff_toInt_le] at h; omega
theorem t_eq {x y : Int32} (h : x = y) : x.toInt = y.toInt := by rw [h]
theorem t_neq {x y : Int32} (h : ¬ x = y) : x.toInt ≠ y.toInt := fun q => h (Int32.toInt_inj.mp q)
theorem t_rg (x : Int32) : -2147483648 ≤ x.toInt ∧ x.toInt < 2147483648 := ⟨Int32.le_toInt x, Int32.toInt_lt x⟩
theorem t_add {x a b : Int32} (h : x = a + b) (h1 : -2147483648 ≤ a.toInt + b.toInt) (h2 : a.toInt + b.toInt < 2147483648) : x.toInt = a.toInt + b.toInt := by
  subst h
  rw [Int32.toInt_add]
  exact Int.bmod_eq_of_le (by simpa using h1) (by simpa using h2)
theorem t_sub {x a b : Int32} (h : x = a - b) (h1 : -2147483648 ≤ a.toInt - b.toInt) (h2 : a.toInt - b.toInt < 2147483648) : x.toInt = a.toInt - b.toInt := by
  subst h
  rw [Int32.toInt_sub]
  exact Int.bmod_eq_of_le (by simpa using h1) (by simpa using h2)
theorem t_mul {x a b : Int32} (h : x = a * b) (h1 : -2147483648 ≤ a.toInt * b.toInt) (h2 : a.toInt * b.toInt < 2147483648) : x.toInt = a.toInt * b.toInt := by
  subst h
  rw [Int32.toInt_mul]
  exact Int.bmod_eq_of_le (by simpa using h1) (by simpa using h2)
theorem t_in {x : Int32} {n : Nat} (h1 : 0 ≤ x.toInt) (h2 : x.toInt < n) : vp_in x n := vp_in_iff.mpr ⟨h1, h2⟩
theorem t_cl {x : Int32} (h : 0 ≤ x.toInt) : (x.toNatClampNeg : Int) = x.toInt := by
  rw [Int32.toNatClampNeg]; exact Int.toNat_of_nonneg h
theorem t_no {x : Int32} : x = nI x.toNatClampNeg ∨ x.toInt < 0 := by
  by_cases h : x.toInt < 0
  · exact Or.inr h
  · left
    apply Int32.toInt_inj.mp
    have h2 := t_rg x
    have h1 := t_cl (x := x) (by omega)
    rw [nI_toInt (by omega)]; omega
theorem KK.nm {D : va_G} {cI cZ cB : ClassId} {U : State} (h : KK D cI cZ cB U) (k : Nat) {a : String} {n : Nat} {y : MethodName} {b : String} (hq : nwM[k]? = some (a, n, y, b)) : va_Nw (.methodLinkNest a n y b) U := h.2.1 (a, n, y, b) (List.mem_of_getElem? hq)
theorem KK.nf {D : va_G} {cI cZ cB : ClassId} {U : State} (h : KK D cI cZ cB U) (k : Nat) {a : String} {n : Nat} {c d e b : String} (hq : nwF[k]? = some (a, n, c, d, e, b)) : va_Nw (.fieldLinkNest a n c d e b) U := h.2.2 (a, n, c, d, e, b) (List.mem_of_getElem? hq)
theorem asD {D vw W H A} (_ : va_P D vw W H) (h : va_D A W) : va_D A W := h

