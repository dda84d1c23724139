/-! String constants: what a method that only reads may know of them -/
def stLen : List Nat := [4, 7, 4, 2, 4, 4, 5]
def stByt : List (List Int32) := [[102, 97, 115, 116], [119, 101, 101, 107, 100, 97, 121], [102, 114, 111, 109], [116, 111], [102, 101, 101, 100], [114, 97, 110, 107], [103, 117, 101, 115, 116]]
def stRef (adK : Nat → Nat) (U : State) : Prop := vk_R RX10 68 "fast" (adK 0) U ∧ vk_R RX10 74 "weekday" (adK 1) U ∧ vk_R RX10 76 "from" (adK 2) U ∧ vk_R RX10 78 "to" (adK 3) U ∧ vk_R RX10 80 "feed" (adK 4) U ∧ vk_R RX10 82 "rank" (adK 5) U ∧ vk_R RX10 84 "guest" (adK 6) U
def SX (adK adV : Nat → Nat) (A : Nat → Prop) (U : State) (H : Heap) : Prop := vk_S 7 stLen stByt adK adV A U H ∧ va_Z "java/lang/String" "COMPACT_STRINGS" "Z" (.int 1) A U H ∧ va_Zq "jdk/internal/util/Preconditions" "SIOOBE_FORMATTER" "Ljava/util/function/BiFunction;" A U H ∧ stRef adK U
theorem stRef.warm {adK : Nat → Nat} {s U : State} (hW : s.WarmedH U.vm) (h : stRef adK s) : stRef adK U := ⟨vk_R.warm hW h.1, vk_R.warm hW h.2.1, vk_R.warm hW h.2.2.1, vk_R.warm hW h.2.2.2.1, vk_R.warm hW h.2.2.2.2.1, vk_R.warm hW h.2.2.2.2.2.1, vk_R.warm hW h.2.2.2.2.2.2⟩
theorem stRef.same {adK : Nat → Nat} {s U : State} (hv : U.vm = s.vm) (h : stRef adK s) : stRef adK U := ⟨vk_R.same hv h.1, vk_R.same hv h.2.1, vk_R.same hv h.2.2.1, vk_R.same hv h.2.2.2.1, vk_R.same hv h.2.2.2.2.1, vk_R.same hv h.2.2.2.2.2.1, vk_R.same hv h.2.2.2.2.2.2⟩
theorem SX.warm {adK adV : Nat → Nat} {A : Nat → Prop} {s U : State} {H : Heap} (hW : s.WarmedH U.vm) (h : SX adK adV A s H) : SX adK adV A U H := ⟨vk_S.moved hW.alike h.1, va_Z.moved hW.alike h.2.1, va_Zq.moved hW.alike h.2.2.1, h.2.2.2.warm hW⟩
theorem SX.call {adK adV : Nat → Nat} {A : Nat → Prop} {U : State} {H : Heap} {g : JFrame} {mk : MethodId} {a : Array Value} (h : SX adK adV A U H) : SX adK adV A (U.calling g mk a) H := ⟨vk_S.moved (u := U) (U := U.calling g mk a) (Vm.Alike.refl U.vm) h.1, va_Z.moved (u := U) (U := U.calling g mk a) (Vm.Alike.refl U.vm) h.2.1, va_Zq.moved (u := U) (U := U.calling g mk a) (Vm.Alike.refl U.vm) h.2.2.1, stRef.same rfl h.2.2.2⟩
theorem SX.narrow {adK adV : Nat → Nat} {A B : Nat → Prop} {U : State} {H : Heap} (h : SX adK adV A U H) (hAB : ∀ q, B q → A q) : SX adK adV B U H := ⟨h.1.narrow hAB, h.2.1.narrow hAB, h.2.2.1.narrow hAB, h.2.2.2⟩
theorem SX.kept {adK adV : Nat → Nat} {A : Nat → Prop} {U : State} {H H1 : Heap} (h : SX adK adV A U H) (hq : ∀ a : Nat, a < H.size → ¬ A a → H1[a]? = H[a]?) : SX adK adV A U H1 := ⟨h.1.kept hq, h.2.1.kept hq, h.2.2.1.kept hq, h.2.2.2⟩
abbrev noA : Nat → Prop := fun _ => False
abbrev ROs (D : va_G) (cI cZ cB : ClassId) (adK adV : Nat → Nat) (as : List Value) (wc : va_W) : Array Value → State → Prop := va_Pc as (fun U => va_P D vwCl wc U.heap ∧ KK D cI cZ cB U ∧ SX adK adV noA U U.heap)
theorem fb_ros {D : va_G} {cI cZ cB : ClassId} {adK adV : Nat → Nat} {as : List Value} {wc : va_W} : FrameBlind (ROs D cI cZ cB adK adV as wc) := fun _ _ _ _ q => ⟨q.1, q.2.1, q.2.2.1.call, q.2.2.2.call⟩
theorem ros_of {l : Launch} {y : MethodName} {ws ws' : List Cond} {rm : Room} {D : va_G} {cI cZ cB : ClassId} {adK adV : Nat → Nat} {as : List Value} {wc : va_W} {Qc : Array Value → State → Outcome → State → Prop} {cc : ByteArray} {maxL : Nat} {ret : Option FieldType} {own : String}
    (hy : plainName y.cls = true) (hw : ws = Cond.code y cc maxL ret :: ws') (ho : y.cls = own) (hn : (lg_sl as).length ≤ maxL)
    (body : ∀ (p : Program) (e : Env) (s : State) (m : MethodId) (below : List Frame) (meth : Method) (c : Code), CallFix p m c cc maxL s as.toArray ws own → meth.sig.returnType = ret → meth.locks = false → va_P D vwCl wc s.heap → KK D cI cZ cB s → SX adK adV noA s s.heap → ∀ ls : Array Slot, lv_has ls maxL (lv_args 0 as) → W p l e rm s m as.toArray below meth c s.heap [] 0 0 (MQ below Qc as.toArray s 0 0 (fun _ => False)) (F0 m 0 ls [])) :
    Met l y ws rm (ROs D cI cZ cB adK adV as wc) Qc 0 0 (fun _ => False) := by
  refine Met.ofW (cc := cc) (maxL := maxL) (ret := ret) hy hw ?_
  intro p e s m args below meth c s₁ B hml hv
  obtain ⟨rfl, hP, hK, hZ⟩ := hv
  have hl := lv_entry as (n := maxL) hn
  rw [lg_entry_eq]
  generalize (lg_sl as ++ List.replicate (maxL - (lg_sl as).length) Slot.unset).toArray = ls at hl ⊢
  exact body p e s m below meth c ⟨B.exec, B.bytes, hml, by rw [← ho]; exact findClass_of_methodNamed B.named, atoms_spec (ws := ws) B.pre⟩ B.returns B.notSynchronized hP hK hZ ls hl
theorem ros_ret {l : Launch} {y : MethodName} {ws ws' : List Cond} {rm : Room} {D : va_G} {cI cZ cB : ClassId} {adK adV : Nat → Nat} {as : List Value} {wc : va_W} {post : Int32 → Prop} {cc : ByteArray} {maxL : Nat} {ty : FieldType} {own : String}
    (hy : plainName y.cls = true) (hw : ws = Cond.code y cc maxL (some ty) :: ws') (ho : y.cls = own) (hn : (lg_sl as).length ≤ maxL)
    (body : ∀ (p : Program) (e : Env) (s : State) (m : MethodId) (args : Array Value) (below : List Frame) (meth : Method) (c : Code) (Q : State → Prop), CallFix p m c cc maxL s args ws own →
      (∀ (v : Int32) (pc : Nat) (ls : Array Slot), post v → narrow ty (.int v) = .int v → decode cc pc = .ok (.ireturn, 1) → W p l e rm s m args below meth c s.heap [] 0 0 Q (F0 m pc ls [.int v])) →
      va_P D vwCl wc s.heap → KK D cI cZ cB s → SX adK adV noA s s.heap → ∀ ls : Array Slot, lv_has ls maxL (lv_args 0 as) → W p l e rm s m args below meth c s.heap [] 0 0 Q (F0 m 0 ls [])) :
    Met l y ws rm (ROs D cI cZ cB adK adV as wc) (vp_Si post) 0 0 (fun _ => False) := by
  refine ros_of hy hw ho hn ?_
  intro p e s m below meth c S hr hlocks hP hK hZ ls hl
  refine body p e s m as.toArray below meth c _ S (fun v pc ls h1 h2 h3 => ?_) hP hK hZ ls hl
  exact W.zret (ty := ty) S.1 S.2.1 hr h2 (fun t ht hW => ⟨v, rfl, h1, ht⟩) (fun q h => by cases h) h3
theorem ros_retv {l : Launch} {y : MethodName} {ws ws' : List Cond} {rm : Room} {D : va_G} {cI cZ cB : ClassId} {adK adV : Nat → Nat} {as : List Value} {wc : va_W} {cc : ByteArray} {maxL : Nat} {own : String}
    (hy : plainName y.cls = true) (hw : ws = Cond.code y cc maxL none :: ws') (ho : y.cls = own) (hn : (lg_sl as).length ≤ maxL)
    (body : ∀ (p : Program) (e : Env) (s : State) (m : MethodId) (args : Array Value) (below : List Frame) (meth : Method) (c : Code) (Q : State → Prop), CallFix p m c cc maxL s args ws own →
      (∀ (pc : Nat) (ls : Array Slot), decode cc pc = .ok (.return_, 1) → W p l e rm s m args below meth c s.heap [] 0 0 Q (F0 m pc ls [])) →
      va_P D vwCl wc s.heap → KK D cI cZ cB s → SX adK adV noA s s.heap → ∀ ls : Array Slot, lv_has ls maxL (lv_args 0 as) → W p l e rm s m args below meth c s.heap [] 0 0 Q (F0 m 0 ls [])) :
    Met l y ws rm (ROs D cI cZ cB adK adV as wc) (va_Sv (fun _ => True)) 0 0 (fun _ => False) := by
  refine ros_of hy hw ho hn ?_
  intro p e s m below meth c S hr hlocks hP hK hZ ls hl
  refine body p e s m as.toArray below meth c _ S (fun pc ls h3 => ?_) hP hK hZ ls hl
  exact W.vret S.1 S.2.1 hr (fun t ht hW => ⟨rfl, trivial, ht⟩) (fun q h => by cases h) h3
section CALLR
variable {p : Program} {l : Launch} {e : Env} {R : Room} {s : State} {m : MethodId} {args : Array Value} {below : List Frame} {meth : Method} {c : Code} {H : Heap} {locs : List Loc} {cells slots : Nat} {Q : State → Prop}
variable {y : MethodName} {bytes cc : ByteArray} {maxL nL n index : Nat} {ret : Option FieldType} {ws : List Cond} {rm : Room} {Ts : List Cond} {own C host : String} {b : Nat} {As rest st0 : List Value} {pc : Nat} {ls : Array Slot} {D : va_G} {cI cZ cB : ClassId} {wc : va_W} {post : Int32 → Prop} {adK adV : Nat → Nat}
theorem rosV (S : CallFix p m c cc nL s args Ts own) (hM : Met l y ws rm (ROs D cI cZ cB adK adV (.ref b :: As) wc) (vp_Si post) 0 0 (fun _ => False)) (cw : CallW R s args own C index y bytes maxL ret ws rm 0 0 n) (hK : KK D cI cZ cB s) (hZ : SX adK adV noA s H) (hP : va_P D vwCl wc H)
    (hv : ∃ cell : Cell, H[b]? = some cell ∧ cell.vm.isStatics = false ∧ s.vm.findClass C = some cell.cls) (hn : As.length = n) (hsize : ls.size = nL) (hst : st0 = As.reverse ++ .ref b :: rest) (hW : (rest.map fun v => v.category).sum ≤ 8) (hdg : decode cc pc = .ok (.invokevirtual index, 3)) (hf : cells ≤ R.cells ∧ slots ≤ R.slots)
    (kk : ∀ r : Int32, post r → W p l e R s m args below meth c H locs cells slots Q (F0 m (pc + 3) ls (.int r :: rest))) : W p l e R s m args below meth c H locs cells slots Q (F0 m pc ls st0) :=
  vp_callSi (W.runV S hM cw ⟨fb_ros, hv, fun U hU hW => ⟨rfl, by rw [hU]; exact hP, hK.warm hW, by rw [hU]; exact hZ.warm hW⟩⟩ rfl hn hsize hst (lv_room hW) hdg hf) kk
theorem rosS (S : CallFix p m c cc nL s args Ts own) (hM : Met l y ws rm (ROs D cI cZ cB adK adV As wc) (vp_Si post) 0 0 (fun _ => False)) (cw : CallB R s args own index y bytes maxL ret ws rm 0 0 n ∧ (Cond.static y).before args s = true) (hK : KK D cI cZ cB s) (hZ : SX adK adV noA s H) (hP : va_P D vwCl wc H)
    (hn : As.length = n) (hsize : ls.size = nL) (hst : st0 = As.reverse ++ rest) (hW : (rest.map fun v => v.category).sum ≤ 8) (hdg : decode cc pc = .ok (.invokestatic index, 3)) (hf : cells ≤ R.cells ∧ slots ≤ R.slots)
    (kk : ∀ r : Int32, post r → W p l e R s m args below meth c H locs cells slots Q (F0 m (pc + 3) ls (.int r :: rest))) : W p l e R s m args below meth c H locs cells slots Q (F0 m pc ls st0) :=
  vp_callSi (W.runS S hM cw ⟨fb_ros, fun U hU hW => ⟨rfl, by rw [hU]; exact hP, hK.warm hW, by rw [hU]; exact hZ.warm hW⟩⟩ rfl hn hsize hst (lv_room hW) hdg hf) kk
theorem rosSv (S : CallFix p m c cc nL s args Ts own) (hM : Met l y ws rm (ROs D cI cZ cB adK adV As wc) (va_Sv (fun _ => True)) 0 0 (fun _ => False)) (cw : CallB R s args own index y bytes maxL ret ws rm 0 0 n ∧ (Cond.static y).before args s = true) (hK : KK D cI cZ cB s) (hZ : SX adK adV noA s H) (hP : va_P D vwCl wc H)
    (hn : As.length = n) (hsize : ls.size = nL) (hst : st0 = As.reverse ++ rest) (hW : (rest.map fun v => v.category).sum ≤ 8) (hdg : decode cc pc = .ok (.invokestatic index, 3)) (hf : cells ≤ R.cells ∧ slots ≤ R.slots)
    (kk : W p l e R s m args below meth c H locs cells slots Q (F0 m (pc + 3) ls rest)) : W p l e R s m args below meth c H locs cells slots Q (F0 m pc ls st0) :=
  va_csv (W.runS S hM cw ⟨fb_ros, fun U hU hW => ⟨rfl, by rw [hU]; exact hP, hK.warm hW, by rw [hU]; exact hZ.warm hW⟩⟩ rfl hn hsize hst (lv_room hW) hdg hf) (fun _ => kk)
end CALLR

