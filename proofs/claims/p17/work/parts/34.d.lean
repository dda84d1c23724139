/-- rows g set down from b on, the rows ahead of b as they were -/
def CopR (f g f1 : Nat → Int32) (b : Nat) (n : Int) : Prop := (∀ q : Nat, q < b → f1 q = f q) ∧ ∀ q : Nat, (q : Int) < n → f1 (b + q) = g q
theorem CopR.zero {f g : Nat → Int32} {b : Nat} {n : Int} (h : n ≤ 0) : CopR f g f b n := ⟨fun _ _ => rfl, fun q hq => by exfalso; omega⟩
theorem CopR.put {f g f1 : Nat → Int32} {s j i y : Int32} {b : Int} (h : CopR f g f1 (16 * s.toNatClampNeg) j.toInt) (hs : 0 ≤ s.toInt) (hj : 0 ≤ j.toInt) (hi : i.toInt = 16 * s.toInt + j.toInt) (hy : y = g j.toNatClampNeg) (hb : b = j.toInt + 1) : CopR f g (upd f1 i.toNatClampNeg y) (16 * s.toNatClampNeg) b := by
  have c1 := t_cl hs
  have c2 := t_cl hj
  have c3 := t_cl (x := i) (by omega)
  refine ⟨fun q hq => ?_, fun q hq => ?_⟩
  · rw [upd_no (by omega)]
    exact h.1 q hq
  · by_cases z : q = j.toNatClampNeg
    · rw [show 16 * s.toNatClampNeg + q = i.toNatClampNeg by omega, upd_at, hy, z]
    · rw [upd_no (by omega)]
      exact h.2 q (by omega)
theorem RowE.k1 {a b s f g : Int32} (hs : s.toInt = 0) (hf : a = f) : RowE 1 a b s f g := by
  have k : (1 : Int32).toInt = 1 := by decide
  exact ⟨by omega, fun _ => hf, fun h => by exfalso; omega, fun h => by exfalso; omega, fun h => by exfalso; omega⟩
theorem RowE.k2 {a b s f g : Int32} (hs : s.toInt = 1) (hf : a = f) (hg : b = g) : RowE 2 a b s f g := by
  have k : (2 : Int32).toInt = 2 := by decide
  exact ⟨by omega, fun h => by exfalso; omega, fun _ => ⟨hf, hg⟩, fun h => by exfalso; omega, fun h => by exfalso; omega⟩
theorem RowE.k4 {a b s f g : Int32} (hs : s.toInt = 3) (hf : a = f) (hg : b = g) : RowE 4 a b s f g := by
  have k : (4 : Int32).toInt = 4 := by decide
  exact ⟨by omega, fun h => by exfalso; omega, fun h => by exfalso; omega, fun _ => ⟨hf, hg⟩, fun h => by exfalso; omega⟩
theorem RowE.k3 {b s f g : Int32} (hs : s.toInt = 2) (hg : b = g) : RowE 3 0 b s f g := by
  have k : (3 : Int32).toInt = 3 := by decide
  exact ⟨by omega, fun h => by exfalso; omega, fun h => by exfalso; omega, fun h => by exfalso; omega, fun _ => ⟨rfl, hg⟩⟩
theorem RowE.k5 {b s f g : Int32} (hs : s.toInt = 4) (hg : b = g) : RowE 5 0 b s f g := by
  have k : (5 : Int32).toInt = 5 := by decide
  exact ⟨by omega, fun h => by exfalso; omega, fun h => by exfalso; omega, fun h => by exfalso; omega, fun _ => ⟨rfl, hg⟩⟩
theorem RowE.k6 {b s f g : Int32} (hs : s.toInt = 5) (hg : b = g) : RowE 6 0 b s f g := by
  have k : (6 : Int32).toInt = 6 := by decide
  exact ⟨by omega, fun h => by exfalso; omega, fun h => by exfalso; omega, fun h => by exfalso; omega, fun _ => ⟨rfl, hg⟩⟩
/-- the model's row t of what was read, from place b on -/
def RowM (K V : Nat → Int32) (fs ff fc : Nat → Int32) (b : Nat) (t : Nat) : Prop := ∃ i : Nat, RdR K V t i ∧ RowE (stmF K V i).1 (stmF K V i).2.2.1 (stmF K V i).2.2.2 (fs (b + t)) (ff (b + t)) (fc (b + t))
/-- rows ahead of place b as they were -/
def BelR (fs ff fc gs gf gc : Nat → Int32) (b : Nat) : Prop := ∀ q : Nat, q < b → gs q = fs q ∧ gf q = ff q ∧ gc q = fc q
theorem BelR.rf {fs ff fc : Nat → Int32} {b : Nat} : BelR fs ff fc fs ff fc b := fun _ _ => ⟨rfl, rfl, rfl⟩
theorem BelR.no {fs ff fc gs gf gc hs hf hc : Nat → Int32} {b k : Nat} (h : BelR fs ff fc gs gf gc b) (hk : b ≤ k) (hn : ∀ q : Nat, q ≠ k → hs q = gs q ∧ hf q = gf q ∧ hc q = gc q) : BelR fs ff fc hs hf hc b := by
  intro q hq
  obtain ⟨a1, a2, a3⟩ := h q hq
  obtain ⟨b1, b2, b3⟩ := hn q (by omega)
  exact ⟨b1.trans a1, b2.trans a2, b3.trans a3⟩
theorem RowM.up {K V : Nat → Int32} {gs gf gc hs hf hc : Nat → Int32} {b k c i : Nat} {e : Int} (h : Al (RowM K V gs gf gc b) (c : Int)) (hk : k = b + c) (he : e = (c : Int) + 1) (hn : ∀ q : Nat, q ≠ k → hs q = gs q ∧ hf q = gf q ∧ hc q = gc q) (hr : RdR K V c i) (hE : RowE (stmF K V i).1 (stmF K V i).2.2.1 (stmF K V i).2.2.2 (hs k) (hf k) (hc k)) : Al (RowM K V hs hf hc b) e := by
  intro t ht
  by_cases z : t = c
  · subst z
    subst hk
    exact ⟨i, hr, hE⟩
  · obtain ⟨j, h1, h2⟩ := h t (by omega)
    obtain ⟨b1, b2, b3⟩ := hn (b + t) (by omega)
    exact ⟨j, h1, by rw [b1, b2, b3]; exact h2⟩
/-- the class's row t of what was read, from place b on -/
def RowK (K V : Nat → Int32) (fk fa fb : Nat → Int32) (b : Nat) (t : Nat) : Prop := ∃ i : Nat, RdR K V t i ∧ fk (b + t) = (stmF K V i).1 ∧ fa (b + t) = (stmF K V i).2.2.1 ∧ fb (b + t) = (stmF K V i).2.2.2
theorem RowK.of {K V : Nat → Int32} {fk fa fb qk qa qb gk ga gb : Nat → Int32} {b : Nat} {n : Int} (h1 : CopR fk qk gk b n) (h2 : CopR fa qa ga b n) (h3 : CopR fb qb gb b n) (hr : Al (RowR K V qk qa qb) n) : Al (RowK K V gk ga gb b) n ∧ BelR fk fa fb gk ga gb b := by
  refine ⟨fun t ht => ?_, fun q hq => ⟨h1.1 q hq, h2.1 q hq, h3.1 q hq⟩⟩
  obtain ⟨i, a1, a2, a3, a4⟩ := hr t ht
  exact ⟨i, a1, (h1.2 t ht).trans a2, (h2.2 t ht).trans a3, (h3.2 t ht).trans a4⟩
theorem RulE.more {n : Int} {fz fk fa fb gz gs gf gg fz1 fk1 fa1 fb1 gz1 gs1 gf1 gg1 K V : Nat → Int32} {u z : Int32} {c : Nat} (h : RulE n fz fk fa fb gz gs gf gg) (hu : u.toInt = n) (hn : 0 ≤ n) (hR : InR fz n 0 17) (hz : fz1 = upd fz u.toNatClampNeg z) (hzc : z.toInt = (c : Int)) (hc : c ≤ 16) (b1 : BelR fk fa fb fk1 fa1 fb1 (16 * u.toNatClampNeg)) (r1 : Al (RowK K V fk1 fa1 fb1 (16 * u.toNatClampNeg)) (c : Int)) (hs : ∀ q : Nat, (q : Int) < n → gz1 q = gz q) (hsc : (gz1 u.toNatClampNeg).toInt = (c : Int)) (b2 : BelR gs gf gg gs1 gf1 gg1 (16 * u.toNatClampNeg)) (r2 : Al (RowM K V gs1 gf1 gg1 (16 * u.toNatClampNeg)) (c : Int)) : RulE (n + 1) fz1 fk1 fa1 fb1 gz1 gs1 gf1 gg1 := by
  have cu := t_cl (x := u) (by omega)
  intro v hv
  subst hz
  by_cases e : v = u.toNatClampNeg
  · subst e
    rw [upd_at]
    refine ⟨i32_ext (by omega), fun q h1 h2 => ?_⟩
    obtain ⟨i, a1, a2, a3, a4⟩ := r1 (q - 16 * u.toNatClampNeg) (by omega)
    obtain ⟨j, d1, d2⟩ := r2 (q - 16 * u.toNatClampNeg) (by omega)
    have ij := RdR.uniq _ _ _ a1 d1
    subst ij
    rw [show 16 * u.toNatClampNeg + (q - 16 * u.toNatClampNeg) = q by omega] at a2 a3 a4 d2
    rw [a2, a3, a4]
    exact d2
  · rw [upd_no e]
    obtain ⟨e1, e2⟩ := h v (by omega)
    refine ⟨by rw [hs v (by omega)]; exact e1, fun q h1 h2 => ?_⟩
    have rg := hR v (by omega)
    obtain ⟨x1, x2, x3⟩ := b1 q (by omega)
    obtain ⟨y1, y2, y3⟩ := b2 q (by omega)
    rw [x1, x2, x3, y1, y2, y3]
    exact e2 q h1 h2
theorem RulE.keep {n : Int} {fz fk fa fb gz gs gf gg gz1 gs1 gf1 gg1 : Nat → Int32} {u : Int32} (h : RulE n fz fk fa fb gz gs gf gg) (hu : u.toInt = n) (hn : 0 ≤ n) (hR : InR fz n 0 17) (hs : ∀ q : Nat, (q : Int) < n → gz1 q = gz q) (b2 : BelR gs gf gg gs1 gf1 gg1 (16 * u.toNatClampNeg)) : RulE n fz fk fa fb gz1 gs1 gf1 gg1 := by
  have cu := t_cl (x := u) (by omega)
  intro v hv
  obtain ⟨e1, e2⟩ := h v hv
  refine ⟨by rw [hs v hv]; exact e1, fun q h1 h2 => ?_⟩
  have rg := hR v hv
  obtain ⟨y1, y2, y3⟩ := b2 q (by omega)
  rw [y1, y2, y3]
  exact e2 q h1 h2
/-- what rule answers and leaves; Sam: the rules' rows as they were, Row c: with one more rule of c statements -/
def RulX (K V : Nat → Int32) (P : Nat → Nat) (n l z r f0 f1 l1 z1 : Int32) (Sam : Prop) (Row : Nat → Prop) : Prop :=
  (¬ (0 ≤ n.toInt ∧ n.toInt ≤ l.toInt) ∧ r.toInt = -2 ∧ f1 = f0 ∧ l1 = l ∧ z1 = z ∧ Sam) ∨ ((0 ≤ n.toInt ∧ n.toInt ≤ l.toInt) ∧ z.toInt = 10 ∧ r.toInt = -3 ∧ f1 = f0 ∧ l1 = l ∧ z1 = z ∧ Sam) ∨
  ((0 ≤ n.toInt ∧ n.toInt ≤ l.toInt) ∧ z.toInt < 10 ∧ l1 = 0 ∧ (∃ c_ i_ f_ : Nat, OutR K V (f1.toInt = -1) c_ i_ f_ ∧ f_ ≤ 96 ∧ (f1.toInt ≠ -1 → (f1.toNatClampNeg = P f_ ∧ 0 ≤ f1.toInt) ∧ Sam) ∧ (f1.toInt = -1 → Row c_)) ∧ ((f1.toInt = -1 ∧ r.toInt = z.toInt ∧ z1 = z + 1) ∨ (f1.toInt ≠ -1 ∧ r.toInt = -1 ∧ z1 = z)))
theorem rulX_rel {K V : Nat → Int32} {P : Nat → Nat} {n l z r f0 f1 l1 z1 r' f1' l1' z1' : Int32} {Sam Sam' : Prop} {Row Row' : Nat → Prop} (h : RulX K V P n l z r f0 f1 l1 z1 Sam Row) (h' : RulX K V P n l z r' f0 f1' l1' z1' Sam' Row') : (r = r' ∧ f1 = f1' ∧ l1 = l1' ∧ z1 = z1') ∧ ((z1 = z ∧ Sam) ∨ (z1 = z + 1 ∧ ∃ c : Nat, c ≤ 16 ∧ Row c ∧ Row' c)) := by
  rcases h with ⟨a, b, c, d, e, s⟩ | ⟨a, b, c, d, e, f, s⟩ | ⟨a, b, c, ⟨k, i, f, o1, o2, o3, o4⟩, e⟩ <;> rcases h' with ⟨a', b', c', d', e', s'⟩ | ⟨a', b', c', d', e', f', s'⟩ | ⟨a', b', c', ⟨k', i', f', o1', o2', o3', o4'⟩, e'⟩
  · exact ⟨⟨i32_ext (by omega), c.trans c'.symm, d.trans d'.symm, e.trans e'.symm⟩, Or.inl ⟨e, s⟩⟩
  · exact absurd a' a
  · exact absurd a' a
  · exact absurd a a'
  · exact ⟨⟨i32_ext (by omega), d.trans d'.symm, e.trans e'.symm, f.trans f'.symm⟩, Or.inl ⟨f, s⟩⟩
  · omega
  · exact absurd a a'
  · omega
  · obtain ⟨u1, u2, u3, u4⟩ := o1.uniq o1'
    have ef : f1 = f1' := by
      by_cases x : f1.toInt = -1
      · exact i32_ext (by have := u3.mp x; omega)
      · have x' : f1'.toInt ≠ -1 := fun y => x (u3.mpr y)
        have p := (o3 x).1
        have p' := (o3' x').1
        rw [u4 x] at p
        have c1 := t_cl p.2
        have c2 := t_cl p'.2
        exact i32_ext (by omega)
    subst ef
    subst u1
    have h16 := o1.2.1
    rcases e with ⟨x, y, w⟩ | ⟨x, y, w⟩ <;> rcases e' with ⟨x', y', w'⟩ | ⟨x', y', w'⟩
    · exact ⟨⟨i32_ext (by omega), rfl, c.trans c'.symm, w.trans w'.symm⟩, Or.inr ⟨w, k, h16, o4 x, o4' x⟩⟩
    · exact absurd x x'
    · exact absurd x' x
    · exact ⟨⟨i32_ext (by omega), rfl, c.trans c'.symm, w.trans w'.symm⟩, Or.inl ⟨w, (o3 x).2⟩⟩

