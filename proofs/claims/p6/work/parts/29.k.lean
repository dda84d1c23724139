/-! methods that write, strings among what they read -/
abbrev RWs (D : va_G) (cI cZ cB : ClassId) (adK adV : Nat → Nat) (as : List Value) (sz : Nat) (wc : va_W) : Array Value → State → Prop := va_Pc as (fun U => U.heap.size = sz ∧ va_P D vwCl wc U.heap ∧ KK D cI cZ cB U ∧ va_D (fun _ => True) wc ∧ SX adK adV (va_A wc sz) U U.heap)
theorem fb_rws {D : va_G} {cI cZ cB : ClassId} {adK adV : Nat → Nat} {as : List Value} {sz : Nat} {wc : va_W} : FrameBlind (RWs D cI cZ cB adK adV as sz wc) := fun _ _ _ _ q => ⟨q.1, q.2.1, q.2.2.1, q.2.2.2.1.call, q.2.2.2.2.1, q.2.2.2.2.2.call⟩
theorem rws_of {l : Launch} {y : MethodName} {ws ws' : List Cond} {rm : Room} {D : va_G} {cI cZ cB : ClassId} {adK adV : Nat → Nat} {as : List Value} {sz : Nat} {wc : va_W} {Qc : Array Value → State → Outcome → State → Prop} {cc : ByteArray} {maxL mc ms : Nat} {ret : Option FieldType} {own : String}
    (hy : plainName y.cls = true) (hw : ws = Cond.code y cc maxL ret :: ws') (ho : y.cls = own) (hn : (lg_sl as).length ≤ maxL)
    (body : ∀ (p : Program) (e : Env) (s : State) (m : MethodId) (below : List Frame) (meth : Method) (c : Code), CallFix p m c cc maxL s as.toArray ws own → meth.sig.returnType = ret → meth.locks = false → meth.name = y.name → va_P D vwCl wc s.heap → KK D cI cZ cB s → va_D (va_A wc sz) wc → (∀ q : Nat, s.heap.size ≤ q → va_A wc sz q) → va_S (va_A wc sz) s.heap s.heap [] → SX adK adV (va_A wc sz) s s.heap → ∀ ls : Array Slot, lv_has ls maxL (lv_args 0 as) → W p l e rm s m as.toArray below meth c s.heap [] 0 0 (MQ below Qc as.toArray s mc ms (va_A wc sz)) (F0 m 0 ls [])) :
    Met l y ws rm (RWs D cI cZ cB adK adV as sz wc) Qc mc ms (va_A wc sz) := by
  refine Met.ofW (cc := cc) (maxL := maxL) (ret := ret) hy hw ?_
  intro p e s m args below meth c s₁ B hml hv
  obtain ⟨rfl, hsz, hP, hK, hD, hZ⟩ := hv
  have hl := lv_entry as (n := maxL) hn
  rw [lg_entry_eq]
  generalize (lg_sl as ++ List.replicate (maxL - (lg_sl as).length) Slot.unset).toArray = ls at hl ⊢
  subst hsz
  exact body p e s m below meth c ⟨B.exec, B.bytes, hml, by rw [← ho]; exact findClass_of_methodNamed B.named, atoms_spec (ws := ws) B.pre⟩ B.returns B.notSynchronized (name_of_methodNamed B.named B.method).1 hP hK hD.self (fun q h => Or.inr h) va_S.rf hZ ls hl
theorem rws_ret {l : Launch} {y : MethodName} {ws ws' : List Cond} {rm : Room} {D : va_G} {cI cZ cB : ClassId} {adK adV : Nat → Nat} {as : List Value} {sz : Nat} {wc : va_W} {Sx : Type} {post : Int32 → Sx → Prop} {w1 : Sx → va_W} {cc : ByteArray} {maxL mc ms : Nat} {ty : FieldType} {own : String}
    (hy : plainName y.cls = true) (hw : ws = Cond.code y cc maxL (some ty) :: ws') (ho : y.cls = own) (hn : (lg_sl as).length ≤ maxL)
    (body : ∀ (p : Program) (e : Env) (s : State) (m : MethodId) (args : Array Value) (below : List Frame) (meth : Method) (c : Code) (Q : State → Prop) (A : Nat → Prop), CallFix p m c cc maxL s args ws own → meth.name = y.name →
      (∀ (v : Int32) (u : Sx) (H : Heap) (locs : List Loc) (pc : Nat) (ls : Array Slot), post v u → narrow ty (.int v) = .int v → va_P D vwCl (w1 u) H → va_D A (w1 u) → va_S A s.heap H locs → decode cc pc = .ok (.ireturn, 1) → W p l e rm s m args below meth c H locs mc ms Q (F0 m pc ls [.int v])) →
      va_P D vwCl wc s.heap → KK D cI cZ cB s → va_D A wc → (∀ q : Nat, s.heap.size ≤ q → A q) → va_S A s.heap s.heap [] → SX adK adV A s s.heap → ∀ ls : Array Slot, lv_has ls maxL (lv_args 0 as) → W p l e rm s m args below meth c s.heap [] 0 0 Q (F0 m 0 ls [])) :
    Met l y ws rm (RWs D cI cZ cB adK adV as sz wc) (va_Qi post (BW D wc sz w1) (va_A wc sz)) mc ms (va_A wc sz) := by
  refine rws_of hy hw ho hn ?_
  intro p e s m below meth c S hr hlocks hin hP hK hD hA hS hZ ls hl
  refine body p e s m as.toArray below meth c _ (va_A wc sz) S hin (fun v u H locs pc ls h1 h2 hP hD hS h3 => ?_) hP hK hD hA hS hZ ls hl
  exact W.zret (ty := ty) S.1 S.2.1 hr h2 (fun t ht hW => ⟨⟨v, u, rfl, h1, by rw [ht]; exact hP, hD⟩, hS.F ht⟩) hS.2.2 h3
theorem rws_retv {l : Launch} {y : MethodName} {ws ws' : List Cond} {rm : Room} {D : va_G} {cI cZ cB : ClassId} {adK adV : Nat → Nat} {as : List Value} {sz : Nat} {wc : va_W} {Sx : Type} {post : Sx → Prop} {w1 : Sx → va_W} {cc : ByteArray} {maxL mc ms : Nat} {own : String}
    (hy : plainName y.cls = true) (hw : ws = Cond.code y cc maxL none :: ws') (ho : y.cls = own) (hn : (lg_sl as).length ≤ maxL)
    (body : ∀ (p : Program) (e : Env) (s : State) (m : MethodId) (args : Array Value) (below : List Frame) (meth : Method) (c : Code) (Q : State → Prop) (A : Nat → Prop), CallFix p m c cc maxL s args ws own → meth.name = y.name →
      (∀ (u : Sx) (H : Heap) (locs : List Loc) (pc : Nat) (ls : Array Slot), post u → va_P D vwCl (w1 u) H → va_D A (w1 u) → va_S A s.heap H locs → decode cc pc = .ok (.return_, 1) → W p l e rm s m args below meth c H locs mc ms Q (F0 m pc ls [])) →
      va_P D vwCl wc s.heap → KK D cI cZ cB s → va_D A wc → (∀ q : Nat, s.heap.size ≤ q → A q) → va_S A s.heap s.heap [] → SX adK adV A s s.heap → ∀ ls : Array Slot, lv_has ls maxL (lv_args 0 as) → W p l e rm s m args below meth c s.heap [] 0 0 Q (F0 m 0 ls [])) :
    Met l y ws rm (RWs D cI cZ cB adK adV as sz wc) (va_Qv post (BW D wc sz w1) (va_A wc sz)) mc ms (va_A wc sz) := by
  refine rws_of hy hw ho hn ?_
  intro p e s m below meth c S hr hlocks hin hP hK hD hA hS hZ ls hl
  refine body p e s m as.toArray below meth c _ (va_A wc sz) S hin (fun u H locs pc ls h1 hP hD hS h3 => ?_) hP hK hD hA hS hZ ls hl
  exact W.vret S.1 S.2.1 hr (fun t ht hW => ⟨⟨u, rfl, h1, by rw [ht]; exact hP, hD⟩, hS.F ht⟩) hS.2.2 h3
section CALLRS
variable {p : Program} {l : Launch} {e : Env} {R : Room} {s : State} {m : MethodId} {args : Array Value} {below : List Frame} {meth : Method} {c : Code} {H : Heap} {locs : List Loc} {cells slots : Nat} {Q : State → Prop}
variable {y : MethodName} {bytes cc : ByteArray} {maxL nL n index : Nat} {ret : Option FieldType} {ws : List Cond} {rm : Room} {Ts : List Cond} {own C host : String} {b : Nat} {As rest st0 : List Value} {pc : Nat} {ls : Array Slot} {D : va_G} {cI cZ cB : ClassId} {wc : va_W} {post : Int32 → Prop}
variable {A : Nat → Prop} {H0 : Heap} {W0 wr : va_W} {mc ms : Nat} {Sx : Type} {w1 : Sx → va_W} {postR : Int32 → Sx → Prop} {postV : Sx → Prop}
variable {adK adV : Nat → Nat}
theorem rwsV (S : CallFix p m c cc nL s args Ts own) (hM : Met l y ws rm (RWs D cI cZ cB adK adV (.ref b :: As) H.size wc) (va_Qi postR (BW D wc H.size w1) (va_A wc H.size)) mc ms (va_A wc H.size)) (cw : CallW R s args own C index y bytes maxL ret ws rm mc ms n) (hK : KK D cI cZ cB s) (hZ : SX adK adV A s H) (hP : va_P D vwCl W0 H) (hD : va_D A W0) (hS : va_S A H0 H locs) (hA : ∀ q, H0.size ≤ q → A q)
    (isC isR : List Nat) (hC : isC.map (fun i => W0[i]?) = wc.map some) (hR : isR.map (fun i => W0[i]?) = wr.map some) (hn1 : va_nd isC = true) (hn2 : va_nd isR = true) (hdis : ∀ i ∈ isR, i ∉ isC)
    (hv : ∃ cell : Cell, H[b]? = some cell ∧ cell.vm.isStatics = false ∧ s.vm.findClass C = some cell.cls) (hn : As.length = n) (hsize : ls.size = nL) (hst : st0 = As.reverse ++ .ref b :: rest) (hW : (rest.map fun v => v.category).sum ≤ 8) (hdg : decode cc pc = .ok (.invokevirtual index, 3)) (hf : cells + mc ≤ R.cells ∧ slots + ms ≤ R.slots)
    (kk : ∀ (r : Int32) (u : Sx) (H1 : Heap) (locs1 : List Loc), postR r u → va_P D vwCl (wr ++ w1 u) H1 → va_D A (wr ++ w1 u) → va_S A H0 H1 locs1 → W p l e R s m args below meth c H1 locs1 (cells + mc) (slots + ms) Q (F0 m (pc + 3) ls (.int r :: rest))) : W p l e R s m args below meth c H locs cells slots Q (F0 m pc ls st0) := by
  have hPc : va_P D vwCl wc H := fun k q hq => by
    have h1 : (isC.map (fun i => W0[i]?))[k]? = some (some q) := by rw [hC, List.getElem?_map, hq]; rfl
    rw [List.getElem?_map] at h1
    cases hi : isC[k]? with
    | none => rw [hi] at h1; cases h1
    | some i => rw [hi] at h1; exact hP i q (Option.some.inj h1)
  have hDc : va_D A wc := hD.sub isC hn1 hC
  have hFc := va_free (wc := wc) hD hS hA isC hC
  refine va_calli (va_runV S hM cw ⟨fb_rws, hv, fun U hU hW => ⟨rfl, by rw [hU], by rw [hU]; exact hPc, hK.warm hW, hDc.weaken (fun _ _ _ _ => trivial), by rw [hU]; exact (hZ.narrow hFc).warm hW⟩⟩ rfl hn hsize hst (lv_room hW) hdg hf) hS (fun q _ h => hFc q h) hFc (fun r u t H1 locs1 ht hvm hw hB hz1 hk1 hS1 => ?_)
  have hP1 := hB.1
  rw [ht] at hP1
  obtain ⟨hP2, hD2⟩ := va_join (wr := wr) (w1 := w1 u) hP hD isC isR hC hR hn2 hdis hk1 hFc hP1 hB.2
  exact kk r u H1 locs1 hw hP2 hD2 hS1
theorem rwsVv (S : CallFix p m c cc nL s args Ts own) (hM : Met l y ws rm (RWs D cI cZ cB adK adV (.ref b :: As) H.size wc) (va_Qv postV (BW D wc H.size w1) (va_A wc H.size)) mc ms (va_A wc H.size)) (cw : CallW R s args own C index y bytes maxL ret ws rm mc ms n) (hK : KK D cI cZ cB s) (hZ : SX adK adV A s H) (hP : va_P D vwCl W0 H) (hD : va_D A W0) (hS : va_S A H0 H locs) (hA : ∀ q, H0.size ≤ q → A q)
    (isC isR : List Nat) (hC : isC.map (fun i => W0[i]?) = wc.map some) (hR : isR.map (fun i => W0[i]?) = wr.map some) (hn1 : va_nd isC = true) (hn2 : va_nd isR = true) (hdis : ∀ i ∈ isR, i ∉ isC)
    (hv : ∃ cell : Cell, H[b]? = some cell ∧ cell.vm.isStatics = false ∧ s.vm.findClass C = some cell.cls) (hn : As.length = n) (hsize : ls.size = nL) (hst : st0 = As.reverse ++ .ref b :: rest) (hW : (rest.map fun v => v.category).sum ≤ 8) (hdg : decode cc pc = .ok (.invokevirtual index, 3)) (hf : cells + mc ≤ R.cells ∧ slots + ms ≤ R.slots)
    (kk : ∀ (u : Sx) (H1 : Heap) (locs1 : List Loc), postV u → va_P D vwCl (wr ++ w1 u) H1 → va_D A (wr ++ w1 u) → va_S A H0 H1 locs1 → W p l e R s m args below meth c H1 locs1 (cells + mc) (slots + ms) Q (F0 m (pc + 3) ls rest)) : W p l e R s m args below meth c H locs cells slots Q (F0 m pc ls st0) := by
  have hPc : va_P D vwCl wc H := fun k q hq => by
    have h1 : (isC.map (fun i => W0[i]?))[k]? = some (some q) := by rw [hC, List.getElem?_map, hq]; rfl
    rw [List.getElem?_map] at h1
    cases hi : isC[k]? with
    | none => rw [hi] at h1; cases h1
    | some i => rw [hi] at h1; exact hP i q (Option.some.inj h1)
  have hDc : va_D A wc := hD.sub isC hn1 hC
  have hFc := va_free (wc := wc) hD hS hA isC hC
  refine va_callv (va_runV S hM cw ⟨fb_rws, hv, fun U hU hW => ⟨rfl, by rw [hU], by rw [hU]; exact hPc, hK.warm hW, hDc.weaken (fun _ _ _ _ => trivial), by rw [hU]; exact (hZ.narrow hFc).warm hW⟩⟩ rfl hn hsize hst (lv_room hW) hdg hf) hS (fun q _ h => hFc q h) hFc (fun u t H1 locs1 ht hvm hw hB hz1 hk1 hS1 => ?_)
  have hP1 := hB.1
  rw [ht] at hP1
  obtain ⟨hP2, hD2⟩ := va_join (wr := wr) (w1 := w1 u) hP hD isC isR hC hR hn2 hdis hk1 hFc hP1 hB.2
  exact kk u H1 locs1 hw hP2 hD2 hS1
end CALLRS

