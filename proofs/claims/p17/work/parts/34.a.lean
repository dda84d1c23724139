/-- what irem leaves -/
def rmF (d y : Int32) : Int32 := d - d / y * y
/-- taken on or before day d; the last of them is in force -/
def okIn (f : Nat → Int32) (d : Int) (q : Nat) : Prop := (f q).toInt ≤ d
def keyL (q : Nat) : Int := -(q : Int)
theorem IsPick.same {ok : Nat → Prop} {key : Nat → Int} {n : Int} {r r' : Int32} (h : IsPick ok key n r) (h' : IsPick ok key n r') : r = r' := h.uniq h' (fun _ _ => Iff.rfl) (fun _ _ _ => rfl)
theorem IsPick.last {ok : Nat → Prop} {n : Int} {j : Int32} (h0 : 0 ≤ j.toInt) (h1 : j.toInt < n) (hk : ok j.toNatClampNeg) (hno : ∀ q : Nat, j.toInt < (q : Int) → (q : Int) < n → ¬ ok q) : IsPick ok keyL n j := by
  have c := t_cl h0
  refine Or.inr ⟨h0, h1, hk, fun q hq ho => ?_, fun q hq ho => ?_⟩
  · show -((j.toNatClampNeg : Nat) : Int) ≤ -(q : Int)
    rcases Int.lt_or_le j.toInt (q : Int) with z | z
    · exact absurd ho (hno q z hq)
    · omega
  · show -((j.toNatClampNeg : Nat) : Int) < -(q : Int)
    omega
theorem IsPick.takeL {ok : Nat → Prop} {a j : Int32} {b : Int} (h : IsPick ok keyL j.toInt a) (h0 : 0 ≤ j.toInt) (hb : b = j.toInt + 1) (hok : ok j.toNatClampNeg) : IsPick ok keyL b j := by
  refine h.take h0 hb hok ?_
  rcases h.rg with z | z
  · exact Or.inl z
  · refine Or.inr ?_
    show -((j.toNatClampNeg : Nat) : Int) < -((a.toNatClampNeg : Nat) : Int)
    have c1 := t_cl h0
    have c2 := t_cl z.1
    omega
/-- a row tells that day d is a fast day; c: the first kind's number -/
def TellP (c : Int) (k a b d : Int32) : Prop := (k.toInt = c ∧ a.toInt = (rmF d 7).toInt) ∨ (k.toInt = c + 1 ∧ ((a.toInt ≤ b.toInt ∧ a.toInt ≤ (rmF d 365).toInt ∧ (rmF d 365).toInt ≤ b.toInt) ∨ (b.toInt < a.toInt ∧ (a.toInt ≤ (rmF d 365).toInt ∨ (rmF d 365).toInt ≤ b.toInt))))
def TelE (c : Int) (fk fa fb : Nat → Int32) (d : Int32) (lo hi : Int) : Prop := ∃ q : Nat, lo ≤ (q : Int) ∧ (q : Int) < hi ∧ TellP c (fk q) (fa q) (fb q) d
theorem TelE.up {c : Int} {fk fa fb : Nat → Int32} {d a x j : Int32} {lo b : Int} (h : (a.toInt = 1 ∧ TelE c fk fa fb d lo j.toInt) ∨ (a.toInt = 0 ∧ ¬ TelE c fk fa fb d lo j.toInt)) (h0 : 0 ≤ j.toInt) (hl : lo ≤ j.toInt) (hb : b = j.toInt + 1) (hx : (x.toInt = 1 ∧ (a.toInt = 1 ∨ TellP c (fk j.toNatClampNeg) (fa j.toNatClampNeg) (fb j.toNatClampNeg) d)) ∨ (x.toInt = 0 ∧ a.toInt = 0 ∧ ¬ TellP c (fk j.toNatClampNeg) (fa j.toNatClampNeg) (fb j.toNatClampNeg) d)) : (x.toInt = 1 ∧ TelE c fk fa fb d lo b) ∨ (x.toInt = 0 ∧ ¬ TelE c fk fa fb d lo b) := by
  have cj := t_cl h0
  rcases hx with ⟨x1, x2⟩ | ⟨x1, x2, x3⟩
  · refine Or.inl ⟨x1, ?_⟩
    rcases x2 with x2 | x2
    · rcases h with ⟨_, q, q1, q2, q3⟩ | h
      · exact ⟨q, q1, by omega, q3⟩
      · omega
    · exact ⟨j.toNatClampNeg, by omega, by omega, x2⟩
  · refine Or.inr ⟨x1, ?_⟩
    rintro ⟨q, q1, q2, q3⟩
    by_cases z : q = j.toNatClampNeg
    · rw [z] at q3
      exact x3 q3
    · rcases h with h | h
      · omega
      · exact h.2 ⟨q, q1, by omega, q3⟩
/-- rule u (or none) makes day d a fast day, with a feast of rank rk -/
def FasU (c : Int) (fz fk fa fb : Nat → Int32) (u d rk : Int32) : Prop := 0 ≤ u.toInt ∧ rk.toInt < 3 ∧ TelE c fk fa fb d (16 * u.toInt) (16 * u.toInt + (fz u.toNatClampNeg).toInt)
theorem FasU.of {c : Int} {fz fk fa fb : Nat → Int32} {u d rk a : Int32} {b : Int} (h : (a.toInt = 1 ∧ TelE c fk fa fb d (16 * u.toInt) b) ∨ (a.toInt = 0 ∧ ¬ TelE c fk fa fb d (16 * u.toInt) b)) (hu : 0 ≤ u.toInt) (hr : rk.toInt < 3) (hb : b = 16 * u.toInt + (fz u.toNatClampNeg).toInt) : (a.toInt = 1 ∧ FasU c fz fk fa fb u d rk) ∨ (a.toInt = 0 ∧ ¬ FasU c fz fk fa fb u d rk) := by
  subst hb
  rcases h with h | h
  · exact Or.inl ⟨h.1, hu, hr, h.2⟩
  · exact Or.inr ⟨h.1, fun w => h.2 w.2.2⟩
/-- the last row of lo .. hi that C holds of -/
def LasR (C : Nat → Prop) (f : Nat → Int32) (lo hi : Int) (v : Int32) : Prop := (v.toInt = -1 ∧ ∀ q : Nat, lo ≤ (q : Int) → (q : Int) < hi → ¬ C q) ∨ (∃ q : Nat, lo ≤ (q : Int) ∧ (q : Int) < hi ∧ C q ∧ (∀ z : Nat, q < z → (z : Int) < hi → ¬ C z) ∧ v = f q)
theorem LasR.take {C : Nat → Prop} {f : Nat → Int32} {lo b : Int} {j v : Int32} (h0 : 0 ≤ j.toInt) (hl : lo ≤ j.toInt) (hb : b = j.toInt + 1) (hc : C j.toNatClampNeg) (hv : v = f j.toNatClampNeg) : LasR C f lo b v := by
  have cj := t_cl h0
  exact Or.inr ⟨j.toNatClampNeg, by omega, by omega, hc, fun z h1 h2 => by exfalso; omega, hv⟩
theorem LasR.skip {C : Nat → Prop} {f : Nat → Int32} {lo b : Int} {j v : Int32} (h : LasR C f lo j.toInt v) (h0 : 0 ≤ j.toInt) (hb : b = j.toInt + 1) (hc : ¬ C j.toNatClampNeg) : LasR C f lo b v := by
  have cj := t_cl h0
  have go : ∀ z : Nat, z = j.toNatClampNeg → ¬ C z := fun z e => by rw [e]; exact hc
  rcases h with ⟨h1, h2⟩ | ⟨q, q1, q2, q3, q4, q5⟩
  · refine Or.inl ⟨h1, fun q a1 a2 => ?_⟩
    by_cases z : q = j.toNatClampNeg
    · exact go q z
    · exact h2 q a1 (by omega)
  · refine Or.inr ⟨q, q1, by omega, q3, fun z a1 a2 => ?_, q5⟩
    by_cases w : z = j.toNatClampNeg
    · exact go z w
    · exact q4 z a1 (by omega)
theorem LasR.uniq {C C' : Nat → Prop} {f f' : Nat → Int32} {lo hi : Int} {v v' : Int32} (h : LasR C f lo hi v) (h' : LasR C' f' lo hi v') (e : ∀ q : Nat, lo ≤ (q : Int) → (q : Int) < hi → (C q ↔ C' q) ∧ (C q → f q = f' q)) : v = v' := by
  rcases h with ⟨h1, h2⟩ | ⟨q, q1, q2, q3, q4, q5⟩ <;> rcases h' with ⟨h1', h2'⟩ | ⟨q', q1', q2', q3', q4', q5'⟩
  · exact i32_ext (by omega)
  · exact absurd ((e q' q1' q2').1.mpr q3') (h2 q' q1' q2')
  · exact absurd ((e q q1 q2).1.mp q3) (h2' q q1 q2)
  · have eq : q = q' := by
      rcases Nat.lt_trichotomy q q' with z | z | z
      · exact absurd ((e q' q1' q2').1.mpr q3') (q4 q' z q2')
      · exact z
      · exact absurd ((e q q1 q2).1.mp q3) (q4' q z q2)
    subst eq
    rw [q5, q5']
    exact (e q q1 q2).2 q3
def LasU (C : Nat → Prop) (fv fz : Nat → Int32) (u r : Int32) : Prop := (u.toInt = -1 ∧ r.toInt = -1) ∨ (0 ≤ u.toInt ∧ LasR C fv (16 * u.toInt) (16 * u.toInt + (fz u.toNatClampNeg).toInt) r)
def CC (fk fa : Nat → Int32) (k x : Int32) (q : Nat) : Prop := fk q = k ∧ fa q = x
def CM (fk fa : Nat → Int32) (k x : Int32) (q : Nat) : Prop := fk q = k ∧ (k = 3 → fa q = x)
/-- a head's share, by the three rows that may tell it -/
def HedU (isF : Prop) (C1 C2 C3 : Nat → Prop) (fv fz : Nat → Int32) (u rk r : Int32) : Prop := ∃ v1 v2 v3 : Int32, ((isF ∧ LasU C1 fv fz u v1) ∨ (¬ isF ∧ v1.toInt = -1)) ∧ (((v1.toInt = -1 ∧ 0 < rk.toInt) ∧ LasU C2 fv fz u v2) ∨ (¬ (v1.toInt = -1 ∧ 0 < rk.toInt) ∧ v2 = v1)) ∧ ((v2.toInt = -1 ∧ LasU C3 fv fz u v3) ∨ (v2.toInt ≠ -1 ∧ v3 = v2)) ∧ ((v3.toInt = -1 ∧ r.toInt = 2) ∨ (v3.toInt ≠ -1 ∧ r = v3))
def GueU (C : Nat → Prop) (fv fz : Nat → Int32) (u r : Int32) : Prop := ∃ v : Int32, LasU C fv fz u v ∧ ((v.toInt = -1 ∧ r.toInt = 3) ∨ (v.toInt ≠ -1 ∧ r = v))
/-- what fast answers -/
def FOut (Pk isF : Int32 → Prop) (Hd Gu : Int32 → Int32 → Prop) (w r : Int32) : Prop := (w.toInt = 0 ∧ ∃ u : Int32, Pk u ∧ ((r.toInt = 1 ∧ isF u) ∨ (r.toInt = 0 ∧ ¬ isF u))) ∨ (w.toInt = 1 ∧ ∃ u : Int32, Pk u ∧ Hd u r) ∨ (w.toInt = 2 ∧ ∃ u : Int32, Pk u ∧ Gu u r) ∨ (w.toInt = 3 ∧ Pk r) ∨ ((w.toInt < 0 ∨ 3 < w.toInt) ∧ r.toInt = -1)
theorem FOut.rel {Pk isF Pk' isF' : Int32 → Prop} {Hd Gu Hd' Gu' : Int32 → Int32 → Prop} {w r r' : Int32} (h : FOut Pk isF Hd Gu w r) (h' : FOut Pk' isF' Hd' Gu' w r') (eP : ∀ u u', Pk u → Pk' u' → u = u') (eF : ∀ u, Pk u → (isF u ↔ isF' u)) (eH : ∀ u v v', Pk u → Hd u v → Hd' u v' → v = v') (eG : ∀ u v v', Pk u → Gu u v → Gu' u v' → v = v') : r = r' := by
  rcases h with ⟨a, u, b, c⟩ | ⟨a, u, b, c⟩ | ⟨a, u, b, c⟩ | ⟨a, b⟩ | ⟨a, b⟩ <;> rcases h' with ⟨a', u', b', c'⟩ | ⟨a', u', b', c'⟩ | ⟨a', u', b', c'⟩ | ⟨a', b'⟩ | ⟨a', b'⟩ <;> first | (exfalso; omega) | skip
  · have e := eP u u' b b'
    subst e
    have f := eF u b
    rcases c with ⟨c1, c2⟩ | ⟨c1, c2⟩ <;> rcases c' with ⟨d1, d2⟩ | ⟨d1, d2⟩
    · exact i32_ext (by omega)
    · exact absurd (f.mp c2) d2
    · exact absurd (f.mpr d2) c2
    · exact i32_ext (by omega)
  · have e := eP u u' b b'
    subst e
    exact eH u r r' b c c'
  · have e := eP u u' b b'
    subst e
    exact eG u r r' b c c'
  · exact eP r r' b b'
  · exact i32_ext (by omega)
/-- the feast that the class says is held, that the model says, and its rank -/
def HelC (n : Int) (hol : Nat → Int32) (y hd : Int32) : Prop := ((0 < n ∧ (0 ≤ y.toInt ∧ y.toInt ≤ 364)) → hd = hol y.toNatClampNeg) ∧ (¬ (0 < n ∧ (0 ≤ y.toInt ∧ y.toInt ≤ 364)) → hd.toInt = -1)
def HelM (ff fk : Nat → Int32) (n : Int) (g : Nat → Int32) (y hd : Int32) : Prop := ((0 ≤ y.toInt ∧ y.toInt ≤ 364) ∧ HeldR ff fk n g 365 ∧ hd = g y.toNatClampNeg) ∨ (¬ (0 ≤ y.toInt ∧ y.toInt ≤ 364) ∧ hd.toInt = -1)
def RkR (fk : Nat → Int32) (hd rk : Int32) : Prop := (hd.toInt = -1 ∧ rk.toInt = 0) ∨ (hd.toInt ≠ -1 ∧ rk = fk hd.toNatClampNeg)
def RankR (ff fk : Nat → Int32) (n : Int) (y rk : Int32) : Prop := ∃ (g : Nat → Int32) (hd : Int32), HelM ff fk n g y hd ∧ RkR fk hd rk
theorem HelC.rg {n : Int} {hol : Nat → Int32} {y hd : Int32} (h : HelC n hol y hd) (hh : 0 < n → InR hol 365 (-1) n) : hd.toInt = -1 ∨ (0 ≤ hd.toInt ∧ hd.toInt < n) := by
  by_cases z : 0 < n ∧ (0 ≤ y.toInt ∧ y.toInt ≤ 364)
  · have e := h.1 z
    have q := (hh z.1).get (i := y) (by omega) (by omega)
    rw [← e] at q
    omega
  · exact Or.inl (h.2 z)
theorem HelM.rg {ff fk g : Nat → Int32} {n : Int} {y hd : Int32} (h : HelM ff fk n g y hd) : hd.toInt = -1 ∨ (0 ≤ hd.toInt ∧ hd.toInt < n) := by
  rcases h with ⟨a, b, c⟩ | ⟨a, b⟩
  · have cy := t_cl a.1
    have z := (b y.toNatClampNeg (by omega)).rg
    rw [← c] at z
    exact z
  · exact Or.inl b
theorem RkR.uniq {fk : Nat → Int32} {hd rk rk' : Int32} (h : RkR fk hd rk) (h' : RkR fk hd rk') : rk = rk' := by
  rcases h with ⟨a, b⟩ | ⟨a, b⟩ <;> rcases h' with ⟨a', b'⟩ | ⟨a', b'⟩
  · exact i32_ext (by omega)
  · exact absurd a a'
  · exact absurd a' a
  · rw [b, b']
theorem RankR.uniq {ff fk : Nat → Int32} {n : Int} {y rk rk' : Int32} (h : RankR ff fk n y rk) (h' : RankR ff fk n y rk') : rk = rk' := by
  obtain ⟨g, hd, h1, h2⟩ := h
  obtain ⟨g', hd', h1', h2'⟩ := h'
  have e : hd = hd' := by
    rcases h1 with ⟨a, b, c⟩ | ⟨a, b⟩ <;> rcases h1' with ⟨a', b', c'⟩ | ⟨a', b'⟩
    · have cy := t_cl a.1
      rw [c, c']
      exact b.uniq b' _ (by omega)
    · exact absurd a a'
    · exact absurd a' a
    · exact i32_ext (by omega)
  subst e
  exact h2.uniq h2'
theorem RankR.mk {ff fk hol ho : Nat → Int32} {n : Int} {y hd rk : Int32} (h1 : HelC n hol y hd) (h2 : RkR fk hd rk) (hfe : 0 < n → HeldR ff fk n hol 365 ∧ HoP ho hol n 365) (hn : 0 ≤ n) : RankR ff fk n y rk := by
  by_cases z : 0 < n
  · refine ⟨hol, hd, ?_, h2⟩
    by_cases w : 0 ≤ y.toInt ∧ y.toInt ≤ 364
    · exact Or.inl ⟨w, (hfe z).1, h1.1 ⟨z, w⟩⟩
    · exact Or.inr ⟨w, h1.2 (fun q => w q.2)⟩
  · have e := h1.2 (fun q => z q.1)
    refine ⟨fun _ => -1, hd, ?_, h2⟩
    have k : (-1 : Int32).toInt = -1 := by decide
    by_cases w : 0 ≤ y.toInt ∧ y.toInt ≤ 364
    · exact Or.inl ⟨w, fun _ _ => IsPick.zero k (by omega), i32_ext (e.trans k.symm)⟩
    · exact Or.inr ⟨w, e⟩
/-- the rows of the class's rules beside the model's -/
def RowE (k a b s f g : Int32) : Prop := k.toInt = s.toInt + 1 ∧ (k.toInt = 1 → a = f) ∧ (k.toInt = 2 → a = f ∧ b = g) ∧ (k.toInt = 4 → a = f ∧ b = g) ∧ ((k.toInt = 3 ∨ k.toInt = 5 ∨ k.toInt = 6) → a = 0 ∧ b = g)
def RulE (n : Int) (fz fk fa fb gz gs gf gg : Nat → Int32) : Prop := ∀ u : Nat, (u : Int) < n → fz u = gz u ∧ ∀ q : Nat, 16 * (u : Int) ≤ (q : Int) → (q : Int) < 16 * (u : Int) + (fz u).toInt → RowE (fk q) (fa q) (fb q) (gs q) (gf q) (gg q)
theorem RowE.tell {k a b s f g d : Int32} (h : RowE k a b s f g) : TellP 1 k a b d ↔ TellP 0 s f g d := by
  obtain ⟨h1, h2, h3, _⟩ := h
  constructor
  · rintro (⟨p, q⟩ | ⟨p, q⟩)
    · rw [h2 p] at q
      exact Or.inl ⟨by omega, q⟩
    · rw [(h3 (by omega)).1, (h3 (by omega)).2] at q
      exact Or.inr ⟨by omega, q⟩
  · rintro (⟨p, q⟩ | ⟨p, q⟩)
    · refine Or.inl ⟨by omega, ?_⟩
      rw [h2 (by omega)]
      exact q
    · refine Or.inr ⟨by omega, ?_⟩
      rw [(h3 (by omega)).1, (h3 (by omega)).2]
      exact q
theorem RowE.cc {k a b s f g kc km x : Int32} (h : RowE k a b s f g) (hk : kc.toInt = km.toInt + 1) (hc : kc.toInt = 4 ∨ ((kc.toInt = 3 ∨ kc.toInt = 5 ∨ kc.toInt = 6) ∧ x = 0)) : ((k = kc ∧ a = x) ↔ (s = km ∧ (km = 3 → f = x))) ∧ ((k = kc ∧ a = x) → b = g) := by
  have t3 : (3 : Int32).toInt = 3 := by decide
  obtain ⟨h1, _, _, h4, h5⟩ := h
  refine ⟨⟨?_, ?_⟩, ?_⟩
  · rintro ⟨p, q⟩
    have tp := t_eq p
    refine ⟨i32_ext (by omega), fun e => ?_⟩
    have te := t_eq e
    rw [← (h4 (by omega)).1]
    exact q
  · rintro ⟨p, q⟩
    have tp := t_eq p
    refine ⟨i32_ext (by omega), ?_⟩
    rcases hc with hc | ⟨hc, hx⟩
    · rw [(h4 (by omega)).1]
      exact q (i32_ext (by omega))
    · rw [(h5 (by omega)).1, hx]
  · rintro ⟨p, q⟩
    have tp := t_eq p
    rcases hc with hc | ⟨hc, hx⟩
    · exact (h4 (by omega)).2
    · exact (h5 (by omega)).2
theorem FasU.rel {n : Int} {fz fk fa fb gz gs gf gg : Nat → Int32} {u d rk : Int32} (hE : RulE n fz fk fa fb gz gs gf gg) (hu : u.toInt = -1 ∨ (0 ≤ u.toInt ∧ u.toInt < n)) : FasU 1 fz fk fa fb u d rk ↔ FasU 0 gz gs gf gg u d rk := by
  unfold FasU TelE
  by_cases z : 0 ≤ u.toInt
  · have cu := t_cl z
    obtain ⟨e1, e2⟩ := hE u.toNatClampNeg (by omega)
    rw [← e1]
    constructor
    · rintro ⟨a, b, q, q1, q2, q3⟩
      exact ⟨a, b, q, q1, q2, (e2 q (by omega) (by omega)).tell.mp q3⟩
    · rintro ⟨a, b, q, q1, q2, q3⟩
      exact ⟨a, b, q, q1, q2, (e2 q (by omega) (by omega)).tell.mpr q3⟩
  · exact ⟨fun h => absurd h.1 z, fun h => absurd h.1 z⟩
theorem LasU.rel {n : Int} {fz fk fa fb gz gs gf gg : Nat → Int32} {u kc km x r r' : Int32} (hE : RulE n fz fk fa fb gz gs gf gg) (hu : u.toInt = -1 ∨ (0 ≤ u.toInt ∧ u.toInt < n)) (hk : kc.toInt = km.toInt + 1) (hc : kc.toInt = 4 ∨ ((kc.toInt = 3 ∨ kc.toInt = 5 ∨ kc.toInt = 6) ∧ x = 0)) (h : LasU (CC fk fa kc x) fb fz u r) (h' : LasU (CM gs gf km x) gg gz u r') : r = r' := by
  rcases h with ⟨a, b⟩ | ⟨a, b⟩ <;> rcases h' with ⟨a', b'⟩ | ⟨a', b'⟩
  · exact i32_ext (by omega)
  · omega
  · omega
  · have cu := t_cl a
    obtain ⟨e1, e2⟩ := hE u.toNatClampNeg (by omega)
    rw [← e1] at b'
    exact b.uniq b' (fun q q1 q2 => (e2 q (by omega) (by omega)).cc hk hc)
theorem HedU.rel {isF isF' : Prop} {C1 C2 C3 C1' C2' C3' : Nat → Prop} {fv fz fv' fz' : Nat → Int32} {u rk r r' : Int32} (h : HedU isF C1 C2 C3 fv fz u rk r) (h' : HedU isF' C1' C2' C3' fv' fz' u rk r') (eF : isF ↔ isF') (e1 : ∀ v v', LasU C1 fv fz u v → LasU C1' fv' fz' u v' → v = v') (e2 : ∀ v v', LasU C2 fv fz u v → LasU C2' fv' fz' u v' → v = v') (e3 : ∀ v v', LasU C3 fv fz u v → LasU C3' fv' fz' u v' → v = v') : r = r' := by
  obtain ⟨v1, v2, v3, a, b, c, d⟩ := h
  obtain ⟨w1, w2, w3, a', b', c', d'⟩ := h'
  have x1 : v1 = w1 := by
    rcases a with ⟨p, q⟩ | ⟨p, q⟩ <;> rcases a' with ⟨p', q'⟩ | ⟨p', q'⟩
    · exact e1 _ _ q q'
    · exact absurd (eF.mp p) p'
    · exact absurd (eF.mpr p') p
    · exact i32_ext (by omega)
  subst x1
  have x2 : v2 = w2 := by
    rcases b with ⟨p, q⟩ | ⟨p, q⟩ <;> rcases b' with ⟨p', q'⟩ | ⟨p', q'⟩
    · exact e2 _ _ q q'
    · exact absurd p p'
    · exact absurd p' p
    · rw [q, q']
  subst x2
  have x3 : v3 = w3 := by
    rcases c with ⟨p, q⟩ | ⟨p, q⟩ <;> rcases c' with ⟨p', q'⟩ | ⟨p', q'⟩
    · exact e3 _ _ q q'
    · exact absurd p p'
    · exact absurd p' p
    · rw [q, q']
  subst x3
  rcases d with ⟨p, q⟩ | ⟨p, q⟩ <;> rcases d' with ⟨p', q'⟩ | ⟨p', q'⟩
  · exact i32_ext (by omega)
  · exact absurd p p'
  · exact absurd p' p
  · rw [q, q']
theorem GueU.rel {C C' : Nat → Prop} {fv fz fv' fz' : Nat → Int32} {u r r' : Int32} (h : GueU C fv fz u r) (h' : GueU C' fv' fz' u r') (e : ∀ v v', LasU C fv fz u v → LasU C' fv' fz' u v' → v = v') : r = r' := by
  obtain ⟨v, a, b⟩ := h
  obtain ⟨v', a', b'⟩ := h'
  have x := e v v' a a'
  subst x
  rcases b with ⟨p, q⟩ | ⟨p, q⟩ <;> rcases b' with ⟨p', q'⟩ | ⟨p', q'⟩
  · exact i32_ext (by omega)
  · exact absurd p p'
  · exact absurd p' p
  · rw [q, q']

