def keyD (ft : Nat → Int32) (k : Int32) (q : Nat) : Int := (ft (4 * q + k.toNatClampNeg)).toInt
def givF (ft : Nat → Int32) (i k : Int32) : Nat → Int32 := if i = -1 then ft else upd ft (4 * i.toNatClampNeg + k.toNatClampNeg) (ft (4 * i.toNatClampNeg + k.toNatClampNeg) + 1)
def ShareR (ok : (Nat → Int32) → Int32 → Nat → Prop) (n : Int) (d : Nat) : Nat → (Nat → Int32) → (Nat → Int32) → (Nat → Int32) → (Nat → Int32) → Prop
  | 0, fc, ft, gc, gt => gc = fc ∧ gt = ft
  | u + 1, fc, ft, gc, gt => ∃ (hc ht : Nat → Int32) (r : Int32), ShareR ok n d u fc ft hc ht ∧ IsPick (ok hc (nI u)) (keyD ht (nI u)) n r ∧ gc = upd hc (4 * d + u) r ∧ gt = givF ht r (nI u)
theorem ShareR.out {ok : (Nat → Int32) → Int32 → Nat → Prop} {n : Int} {d : Nat} {fc ft : Nat → Int32} : ∀ (u : Nat) (gc gt : Nat → Int32), u ≤ 4 → ShareR ok n d u fc ft gc gt → ∀ q, (q < 4 * d ∨ 4 * d + 4 ≤ q) → gc q = fc q := by
  intro u
  induction u with
  | zero => intro gc gt _ h q _; rw [h.1]
  | succ u ih =>
    intro gc gt hu h q hq
    obtain ⟨hc, ht, r, h1, h2, h3, h4⟩ := h
    rw [h3, upd_no (by omega)]
    exact ih hc ht (by omega) h1 q hq
def massF (f2 : Nat → Int32) (g : Nat) : Int32 := if f2 g = 0 then 1 else 2
def OweS (due leave : Nat → Prop) (f2 : Nat → Int32) (g : Nat) (ho hs go gs : Nat → Int32) : Prop :=
  (¬ due g ∧ go = ho ∧ gs = hs) ∨ (due g ∧ leave g ∧ go = ho ∧ gs = upd hs g (hs g + massF f2 g)) ∨ (due g ∧ ¬ leave g ∧ go = upd ho g (ho g + massF f2 g) ∧ gs = hs)
def OweR (due leave : Nat → Prop) (f2 : Nat → Int32) : Nat → (Nat → Int32) → (Nat → Int32) → (Nat → Int32) → (Nat → Int32) → Prop
  | 0, fo, fs, go, gs => go = fo ∧ gs = fs
  | g + 1, fo, fs, go, gs => ∃ ho hs : Nat → Int32, OweR due leave f2 g fo fs ho hs ∧ OweS due leave f2 g ho hs go gs
theorem OweS.uniq {due leave : Nat → Prop} {f2 : Nat → Int32} {g : Nat} {ho hs go gs go' gs' : Nat → Int32} (h : OweS due leave f2 g ho hs go gs) (h' : OweS due leave f2 g ho hs go' gs') : go = go' ∧ gs = gs' := by
  rcases h with ⟨a, b, c⟩ | ⟨a, b, c, d⟩ | ⟨a, b, c, d⟩ <;> rcases h' with ⟨a', b', c'⟩ | ⟨a', b', c', d'⟩ | ⟨a', b', c', d'⟩
  · exact ⟨b.trans b'.symm, c.trans c'.symm⟩
  · exact absurd a' a
  · exact absurd a' a
  · exact absurd a a'
  · exact ⟨c.trans c'.symm, d.trans d'.symm⟩
  · exact absurd b b'
  · exact absurd a a'
  · exact absurd b' b
  · exact ⟨c.trans c'.symm, d.trans d'.symm⟩
theorem OweR.uniq {due leave : Nat → Prop} {f2 : Nat → Int32} {fo fs : Nat → Int32} : ∀ (n : Nat) (go gs go' gs' : Nat → Int32), OweR due leave f2 n fo fs go gs → OweR due leave f2 n fo fs go' gs' → go = go' ∧ gs = gs' := by
  intro n
  induction n with
  | zero => intro go gs go' gs' h h'; exact ⟨h.1.trans h'.1.symm, h.2.trans h'.2.symm⟩
  | succ n ih =>
    intro go gs go' gs' h h'
    obtain ⟨ho, hs, h1, h2⟩ := h
    obtain ⟨ho', hs', h1', h2'⟩ := h'
    obtain ⟨e1, e2⟩ := ih _ _ _ _ h1 h1'
    subst e1; subst e2
    exact h2.uniq h2'
def okO (fo : Nat → Int32) (q : Nat) : Prop := 0 < (fo q).toInt
def keyO (fo : Nat → Int32) (q : Nat) : Int := -(fo q).toInt
def SayS (n : Int) (ho hs go gs : Nat → Int32) : Prop := ∃ r : Int32, IsPick (okO ho) (keyO ho) n r ∧ ((r.toInt = -1 ∧ go = ho ∧ gs = hs) ∨ (r.toInt ≠ -1 ∧ go = upd ho r.toNatClampNeg (ho r.toNatClampNeg - 1) ∧ gs = upd hs r.toNatClampNeg (hs r.toNatClampNeg + 1)))
def SayR (n : Int) : Nat → (Nat → Int32) → (Nat → Int32) → (Nat → Int32) → (Nat → Int32) → Prop
  | 0, fo, fs, go, gs => go = fo ∧ gs = fs
  | p + 1, fo, fs, go, gs => ∃ ho hs : Nat → Int32, SayR n p fo fs ho hs ∧ SayS n ho hs go gs
theorem SayS.uniq {n : Int} {ho hs go gs go' gs' : Nat → Int32} (h : SayS n ho hs go gs) (h' : SayS n ho hs go' gs') : go = go' ∧ gs = gs' := by
  obtain ⟨r, a, b⟩ := h
  obtain ⟨r', a', b'⟩ := h'
  have e : r = r' := a.uniq a' (fun _ _ => Iff.rfl) (fun _ _ _ => rfl)
  subst e
  rcases b with ⟨b1, b2, b3⟩ | ⟨b1, b2, b3⟩ <;> rcases b' with ⟨c1, c2, c3⟩ | ⟨c1, c2, c3⟩
  · exact ⟨b2.trans c2.symm, b3.trans c3.symm⟩
  · exact absurd b1 c1
  · exact absurd c1 b1
  · exact ⟨b2.trans c2.symm, b3.trans c3.symm⟩
theorem SayR.uniq {n : Int} {fo fs : Nat → Int32} : ∀ (p : Nat) (go gs go' gs' : Nat → Int32), SayR n p fo fs go gs → SayR n p fo fs go' gs' → go = go' ∧ gs = gs' := by
  intro p
  induction p with
  | zero => intro go gs go' gs' h h'; exact ⟨h.1.trans h'.1.symm, h.2.trans h'.2.symm⟩
  | succ p ih =>
    intro go gs go' gs' h h'
    obtain ⟨ho, hs, h1, h2⟩ := h
    obtain ⟨ho', hs', h1', h2'⟩ := h'
    obtain ⟨e1, e2⟩ := ih _ _ _ _ h1 h1'
    subst e1; subst e2
    exact h2.uniq h2'
theorem SayR.more {n : Int} {fo fs go gs : Nat → Int32} {r : Int32} (hp : IsPick (okO go) (keyO go) n r) (hr : r.toInt = -1) {p : Nat} (h : SayR n p fo fs go gs) : ∀ k : Nat, SayR n (p + k) fo fs go gs := by
  intro k
  induction k with
  | zero => exact h
  | succ k ih => exact ⟨go, gs, ih, r, hp, Or.inl ⟨hr, rfl, rfl⟩⟩
def CntR (P : Nat → Prop) : Nat → Nat → Prop
  | 0, c => c = 0
  | n + 1, c => ∃ b : Nat, CntR P n b ∧ ((P n ∧ c = b + 1) ∨ (¬ P n ∧ c = b))
theorem CntR.uniq {P : Nat → Prop} : ∀ (n c c' : Nat), CntR P n c → CntR P n c' → c = c' := by
  intro n
  induction n with
  | zero => intro c c' h h'; exact Eq.trans h (Eq.symm h')
  | succ n ih =>
    intro c c' h h'
    obtain ⟨b, h1, h2⟩ := h
    obtain ⟨b', h1', h2'⟩ := h'
    have e := ih _ _ h1 h1'
    subst e
    rcases h2 with ⟨a, x⟩ | ⟨a, x⟩ <;> rcases h2' with ⟨a', x'⟩ | ⟨a', x'⟩
    · omega
    · exact absurd a a'
    · exact absurd a' a
    · omega
