/-! the heads of the contracts: what a method's return owes is a hypothesis, its end is a name -/
theorem ro_ret {l : Launch} {y : MethodName} {ws ws' : List Cond} {rm : Room} {D : va_G} {cI cZ cB : ClassId} {as : List Value} {wc : va_W} {post : Int32 → Prop} {cc : ByteArray} {maxL : Nat} {ty : FieldType} {own : String}
    (hy : plainName y.cls = true) (hw : ws = Cond.code y cc maxL (some ty) :: ws') (ho : y.cls = own) (hn : (lg_sl as).length ≤ maxL)
    (body : ∀ (p : Program) (e : Env) (s : State) (m : MethodId) (args : Array Value) (below : List Frame) (meth : Method) (c : Code) (Q : State → Prop), CallFix p m c cc maxL s args ws own →
      (∀ (v : Int32) (pc : Nat) (ls : Array Slot), post v → narrow ty (.int v) = .int v → decode cc pc = .ok (.ireturn, 1) → W p l e rm s m args below meth c s.heap [] 0 0 Q (F0 m pc ls [.int v])) →
      va_P D vwCl wc s.heap → KK D cI cZ cB s → ∀ ls : Array Slot, lv_has ls maxL (lv_args 0 as) → W p l e rm s m args below meth c s.heap [] 0 0 Q (F0 m 0 ls [])) :
    Met l y ws rm (RO D cI cZ cB as wc) (vp_Si post) 0 0 (fun _ => False) := by
  refine ro_of hy hw ho hn ?_
  intro p e s m below meth c S hr hlocks hP hK ls hl
  refine body p e s m as.toArray below meth c _ S (fun v pc ls h1 h2 h3 => ?_) hP hK ls hl
  exact W.zret (ty := ty) S.1 S.2.1 hr h2 (fun t ht hW => ⟨v, rfl, h1, ht⟩) (fun q h => by cases h) h3
theorem rw_ret {l : Launch} {y : MethodName} {ws ws' : List Cond} {rm : Room} {D : va_G} {cI cZ cB : ClassId} {as : List Value} {sz : Nat} {wc : va_W} {Sx : Type} {post : Int32 → Sx → Prop} {w1 : Sx → va_W} {cc : ByteArray} {maxL mc ms : Nat} {ty : FieldType} {own : String}
    (hy : plainName y.cls = true) (hw : ws = Cond.code y cc maxL (some ty) :: ws') (ho : y.cls = own) (hn : (lg_sl as).length ≤ maxL)
    (body : ∀ (p : Program) (e : Env) (s : State) (m : MethodId) (args : Array Value) (below : List Frame) (meth : Method) (c : Code) (Q : State → Prop) (A : Nat → Prop), CallFix p m c cc maxL s args ws own → meth.name = y.name →
      (∀ (v : Int32) (u : Sx) (H : Heap) (locs : List Loc) (pc : Nat) (ls : Array Slot), post v u → narrow ty (.int v) = .int v → va_P D vwCl (w1 u) H → va_D A (w1 u) → va_S A s.heap H locs → decode cc pc = .ok (.ireturn, 1) → W p l e rm s m args below meth c H locs mc ms Q (F0 m pc ls [.int v])) →
      va_P D vwCl wc s.heap → KK D cI cZ cB s → va_D A wc → (∀ q : Nat, s.heap.size ≤ q → A q) → va_S A s.heap s.heap [] → ∀ ls : Array Slot, lv_has ls maxL (lv_args 0 as) → W p l e rm s m args below meth c s.heap [] 0 0 Q (F0 m 0 ls [])) :
    Met l y ws rm (RW D cI cZ cB as sz wc) (va_Qi post (BW D wc sz w1) (va_A wc sz)) mc ms (va_A wc sz) := by
  refine rw_of hy hw ho hn ?_
  intro p e s m below meth c S hr hlocks hin hP hK hD hA hS ls hl
  refine body p e s m as.toArray below meth c _ (va_A wc sz) S hin (fun v u H locs pc ls h1 h2 hP hD hS h3 => ?_) hP hK hD hA hS ls hl
  exact W.zret (ty := ty) S.1 S.2.1 hr h2 (fun t ht hW => ⟨⟨v, u, rfl, h1, by rw [ht]; exact hP, hD⟩, hS.F ht⟩) hS.2.2 h3
theorem rw_retv {l : Launch} {y : MethodName} {ws ws' : List Cond} {rm : Room} {D : va_G} {cI cZ cB : ClassId} {as : List Value} {sz : Nat} {wc : va_W} {Sx : Type} {post : Sx → Prop} {w1 : Sx → va_W} {cc : ByteArray} {maxL mc ms : Nat} {own : String}
    (hy : plainName y.cls = true) (hw : ws = Cond.code y cc maxL none :: ws') (ho : y.cls = own) (hn : (lg_sl as).length ≤ maxL)
    (body : ∀ (p : Program) (e : Env) (s : State) (m : MethodId) (args : Array Value) (below : List Frame) (meth : Method) (c : Code) (Q : State → Prop) (A : Nat → Prop), CallFix p m c cc maxL s args ws own → meth.name = y.name →
      (∀ (u : Sx) (H : Heap) (locs : List Loc) (pc : Nat) (ls : Array Slot), post u → va_P D vwCl (w1 u) H → va_D A (w1 u) → va_S A s.heap H locs → decode cc pc = .ok (.return_, 1) → W p l e rm s m args below meth c H locs mc ms Q (F0 m pc ls [])) →
      va_P D vwCl wc s.heap → KK D cI cZ cB s → va_D A wc → (∀ q : Nat, s.heap.size ≤ q → A q) → va_S A s.heap s.heap [] → ∀ ls : Array Slot, lv_has ls maxL (lv_args 0 as) → W p l e rm s m args below meth c s.heap [] 0 0 Q (F0 m 0 ls [])) :
    Met l y ws rm (RW D cI cZ cB as sz wc) (va_Qv post (BW D wc sz w1) (va_A wc sz)) mc ms (va_A wc sz) := by
  refine rw_of hy hw ho hn ?_
  intro p e s m below meth c S hr hlocks hin hP hK hD hA hS ls hl
  refine body p e s m as.toArray below meth c _ (va_A wc sz) S hin (fun u H locs pc ls h1 hP hD hS h3 => ?_) hP hK hD hA hS ls hl
  exact W.vret S.1 S.2.1 hr (fun t ht hW => ⟨⟨u, rfl, h1, by rw [ht]; exact hP, hD⟩, hS.F ht⟩) hS.2.2 h3
theorem zb {v : Int32} (h : v.toInt = 0 ∨ v.toInt = 1) : narrow .boolean (.int v) = .int v := by
  rcases h with h | h
  · have : v = 0 := Int32.toInt_inj.mp (by rw [h]; decide)
    subst this; rfl
  · have : v = 1 := Int32.toInt_inj.mp (by rw [h]; decide)
    subst this; rfl
theorem t_max {z x y : Int32} (h : z = if x < y then y else x) : (z.toInt = x.toInt ∧ y.toInt ≤ x.toInt) ∨ (z.toInt = y.toInt ∧ x.toInt < y.toInt) := by
  by_cases c : x < y
  · rw [if_pos c] at h; subst h; exact Or.inr ⟨rfl, t_lt c⟩
  · rw [if_neg c] at h; subst h; exact Or.inl ⟨rfl, t_nlt c⟩
theorem t_min {z x y : Int32} (h : z = if y < x then y else x) : (z.toInt = x.toInt ∧ x.toInt ≤ y.toInt) ∨ (z.toInt = y.toInt ∧ y.toInt < x.toInt) := by
  by_cases c : y < x
  · rw [if_pos c] at h; subst h; exact Or.inr ⟨rfl, t_lt c⟩
  · rw [if_neg c] at h; subst h; exact Or.inl ⟨rfl, t_nlt c⟩
theorem t_mulK {x a b : Int32} {k : Int} (hb : b.toInt = k) (h : x = a * b) (h1 : -2147483648 ≤ a.toInt * k) (h2 : a.toInt * k < 2147483648) : x.toInt = a.toInt * k := by
  subst hb; exact t_mul h h1 h2
theorem t_mulL {x a b : Int32} {k : Int} (hb : b.toInt = k) (h : x = b * a) (h1 : -2147483648 ≤ k * a.toInt) (h2 : k * a.toInt < 2147483648) : x.toInt = k * a.toInt := by
  subst hb; exact t_mul h h1 h2
def InR (f : Nat → Int32) (b lo hi : Int) : Prop := ∀ j : Nat, (j : Int) < b → lo ≤ (f j).toInt ∧ (f j).toInt < hi
theorem InR.put {f : Nat → Int32} {b lo hi : Int} {k : Nat} {x : Int32} (h : InR f b lo hi) (h1 : lo ≤ x.toInt) (h2 : x.toInt < hi) : InR (upd f k x) b lo hi := by
  intro j hj
  unfold upd
  split
  · exact ⟨h1, h2⟩
  · exact h j hj
theorem InR.ext {f : Nat → Int32} {b lo hi : Int} {i x : Int32} (h : InR f i.toInt lo hi) (h0 : 0 ≤ i.toInt) (hb : b ≤ i.toInt + 1) (h1 : lo ≤ x.toInt) (h2 : x.toInt < hi) : InR (upd f i.toNatClampNeg x) b lo hi := by
  intro j hj
  have hc := t_cl h0
  unfold upd
  split
  · exact ⟨h1, h2⟩
  · rename_i hne
    exact h j (by omega)
theorem InR.get {f : Nat → Int32} {b lo hi : Int} {i : Int32} (h : InR f b lo hi) (h0 : 0 ≤ i.toInt) (hb : i.toInt < b) : lo ≤ (f i.toNatClampNeg).toInt ∧ (f i.toNatClampNeg).toInt < hi := by
  have hc := t_cl h0
  exact h _ (by omega)
theorem InR.mono {f : Nat → Int32} {b lo hi b' lo' hi' : Int} (h : InR f b lo hi) (h1 : b' ≤ b) (h2 : lo' ≤ lo) (h3 : hi ≤ hi') : InR f b' lo' hi' := by
  intro j hj
  have := h j (by omega)
  omega
theorem InR.zero {f : Nat → Int32} {lo hi : Int} : InR f 0 lo hi := fun j hj => by omega

