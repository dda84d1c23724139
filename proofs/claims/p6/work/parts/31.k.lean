/-- feasts: the greater rank first, then the one that falls on the day itself, then the first told -/
def keyF (ff fk : Nat → Int32) (y i : Nat) : Int := -(2 * (fk i).toInt + (if (ff i).toInt = (y : Int) then 1 else 0))
def CandF (ff fk best : Nat → Int32) : Nat → Nat → Prop
  | 0, i => (ff i).toInt = ((0 : Nat) : Int)
  | y + 1, i => (ff i).toInt = ((y + 1 : Nat) : Int) ∨ (CandF ff fk best y i ∧ ¬ nI i = best y ∧ 2 ≤ (fk i).toInt)
def WaitF (ff fk best : Nat → Int32) : Nat → Nat → Prop
  | 0, _ => False
  | y + 1, i => CandF ff fk best y i ∧ ¬ nI i = best y ∧ 2 ≤ (fk i).toInt
theorem CandF.wait {ff fk best : Nat → Int32} : ∀ y i : Nat, CandF ff fk best y i ↔ ((ff i).toInt = (y : Int) ∨ WaitF ff fk best y i) := by
  intro y i
  cases y with
  | zero => exact ⟨fun h => Or.inl h, fun h => h.elim id (fun z => False.elim z)⟩
  | succ y => exact Iff.rfl
theorem CandF.congr {ff fk b b' : Nat → Int32} : ∀ y : Nat, (∀ q, q < y → b q = b' q) → ∀ i, CandF ff fk b y i ↔ CandF ff fk b' y i := by
  intro y
  induction y with
  | zero => intro _ i; exact Iff.rfl
  | succ y ih =>
    intro h i
    have h1 := ih (fun q hq => h q (by omega)) i
    have h2 := h y (by omega)
    show ((ff i).toInt = ((y + 1 : Nat) : Int) ∨ (CandF ff fk b y i ∧ ¬ nI i = b y ∧ 2 ≤ (fk i).toInt)) ↔ ((ff i).toInt = ((y + 1 : Nat) : Int) ∨ (CandF ff fk b' y i ∧ ¬ nI i = b' y ∧ 2 ≤ (fk i).toInt))
    rw [h1, h2]
def HeldR (ff fk : Nat → Int32) (n : Int) (best : Nat → Int32) (Y : Nat) : Prop := ∀ y, y < Y → IsPick (CandF ff fk best y) (keyF ff fk y) n (best y)
theorem HeldR.uniq {ff fk b b' : Nat → Int32} {n : Int} {Y : Nat} (h : HeldR ff fk n b Y) (h' : HeldR ff fk n b' Y) : ∀ y, y < Y → b y = b' y := by
  intro y
  induction y using Nat.strongRecOn with
  | ind y ih =>
    intro hy
    exact (h y hy).uniq (h' y hy) (fun i _ => CandF.congr y (fun q hq => ih q hq (by omega)) i) (fun _ _ _ => rfl)
/-- one more day: what was held stays, the new one is picked among those that stand -/
theorem HeldR.up {ff fk b : Nat → Int32} {n : Int} {Y : Nat} {r : Int32} (h : HeldR ff fk n b Y) (hp : IsPick (CandF ff fk b Y) (keyF ff fk Y) n r) : HeldR ff fk n (upd b Y r) (Y + 1) := by
  intro y hy
  by_cases e : y = Y
  · subst e
    rw [upd_at]
    exact hp.congr (fun i _ => CandF.congr y (fun q hq => (upd_no (by omega)).symm) i)
  · rw [upd_no e]
    exact (h y (by omega)).congr (fun i _ => CandF.congr y (fun q hq => (upd_no (by omega)).symm) i)
theorem HeldR.same {ff fk b b' : Nat → Int32} {n : Int} {Y : Nat} (h : HeldR ff fk n b Y) (e : ∀ q, q < Y → b q = b' q) : HeldR ff fk n b' Y := by
  intro y hy
  rw [← e y hy]
  exact (h y hy).congr (fun i _ => CandF.congr y (fun q hq => e q (by omega)) i)
theorem HeldR.zero {ff fk b : Nat → Int32} {n : Int} : HeldR ff fk n b 0 := fun y hy => absurd hy (by omega)
/-- a row that is one longer changes nothing where the day is not its own -/
theorem CandF.falls {ff fk b : Nat → Int32} : ∀ y i : Nat, CandF ff fk b y i → (ff i).toInt ≤ (y : Int) := by
  intro y
  induction y with
  | zero => intro i h; exact Int.le_of_eq h
  | succ y ih =>
    intro i h
    rcases h with h | h
    · exact Int.le_of_eq h
    · have := ih i h.1; omega
theorem CandF.once {ff fk b : Nat → Int32} {y i : Nat} (h : CandF ff fk b y i) (hb : b y = nI i) : ∀ k : Nat, ¬ CandF ff fk b (y + 1 + k) i := by
  have hf := CandF.falls y i h
  intro k
  induction k with
  | zero =>
    intro h1
    rcases h1 with h1 | h1
    · omega
    · exact h1.2.1 hb.symm
  | succ k ih =>
    intro h1
    rcases h1 with h1 | h1
    · have h1 : (ff i).toInt = ((y + 1 + k + 1 : Nat) : Int) := h1
      omega
    · exact ih h1.1
theorem HeldR.once {ff fk b : Nat → Int32} {n : Int} {Y y z i : Nat} (h : HeldR ff fk n b Y) (hy : y < Y) (hz : z < Y) (hi : (i : Int) < n) (hn : n ≤ 40) (ey : b y = nI i) (ez : b z = nI i) : y = z := by
  have nn : (nI i).toInt = i := nI_toInt (by omega)
  have key : ∀ u v : Nat, u < Y → v < Y → b u = nI i → b v = nI i → ¬ u < v := by
    intro u v hu hv eu ev huv
    have cd : ∀ w : Nat, w < Y → b w = nI i → CandF ff fk b w i := by
      intro w hw ew
      rcases h w hw with p | p
      · have := t_eq ew; omega
      · have p3 := p.2.2.1
        have hc := t_cl p.1
        have := t_eq ew
        rw [show (b w).toNatClampNeg = i by omega] at p3
        exact p3
    have c1 := CandF.once (cd u hu eu) eu (v - (u + 1))
    rw [show u + 1 + (v - (u + 1)) = v by omega] at c1
    exact c1 (cd v hv ev)
  have k1 := key y z hy hz ey ez
  have k2 := key z y hz hy ez ey
  omega
/-- the class's rows at the start of the day y -/
def StP (ff fk fs b : Nat → Int32) (n : Int) (y : Nat) : Prop := Al (fun i => (CandF ff fk b y i ↔ (fs i).toInt = (y : Int)) ∧ ((y : Int) < (ff i).toInt → (fs i).toInt = (ff i).toInt) ∧ ((y : Int) < (fs i).toInt → (ff i).toInt = (fs i).toInt)) n
def MvP (fk fs : Nat → Int32) (g : Int32) (y i : Nat) : Prop := ¬ nI i = g ∧ (fs i).toInt = (y : Int) ∧ 2 ≤ (fk i).toInt
def MvR (fk fs gs : Nat → Int32) (g : Int32) (y i : Nat) : Prop := (MvP fk fs g y i ∧ (gs i).toInt = ((y + 1 : Nat) : Int)) ∨ (¬ MvP fk fs g y i ∧ gs i = fs i)
theorem StP.up {ff fk fs gs b : Nat → Int32} {n : Int} {y : Nat} {r : Int32} (h : StP ff fk fs b n y) (hm : Al (MvR fk fs gs r y) n) : StP ff fk gs (upd b y r) n (y + 1) := by
  intro i hi
  obtain ⟨h1, h2, h3⟩ := h i hi
  have hc : CandF ff fk (upd b y r) y i ↔ CandF ff fk b y i := CandF.congr y (fun q hq => upd_no (by omega)) i
  have hb : upd b y r y = r := upd_at
  have hs : CandF ff fk (upd b y r) (y + 1) i ↔ ((ff i).toInt = ((y + 1 : Nat) : Int) ∨ ((fs i).toInt = (y : Int) ∧ ¬ nI i = r ∧ 2 ≤ (fk i).toInt)) := by
    show ((ff i).toInt = ((y + 1 : Nat) : Int) ∨ (CandF ff fk (upd b y r) y i ∧ ¬ nI i = upd b y r y ∧ 2 ≤ (fk i).toInt)) ↔ _
    rw [hc, hb, h1]
  rcases hm i hi with ⟨m1, m2⟩ | ⟨m1, m2⟩
  · obtain ⟨a, b1, c⟩ := m1
    refine ⟨⟨fun _ => m2, fun _ => hs.mpr (Or.inr ⟨b1, a, c⟩)⟩, fun q => ?_, fun q => ?_⟩
    · have := h2 (by omega); omega
    · omega
  · have e2 := t_eq m2
    refine ⟨⟨fun q => ?_, fun q => ?_⟩, fun q => ?_, fun q => ?_⟩
    · rcases hs.mp q with z | z
      · have := h2 (by omega); omega
      · exact absurd ⟨z.2.1, z.1, z.2.2⟩ m1
    · exact hs.mpr (Or.inl (by have := h3 (by omega); omega))
    · have := h2 (by omega); omega
    · have := h3 (by omega); omega
/-- days on which some feast stands are counted -/
def CtP (fs fg : Nat → Int32) (n : Int) (y : Nat) : Prop := Al (fun i => (y : Int) ≤ (fs i).toInt → (fs i).toInt < 365 → 0 < (fg (fs i).toNatClampNeg).toInt) n
/-- where each feast is held -/
def HoP (fh b : Nat → Int32) (n : Int) (Y : Nat) : Prop := Al (fun i => ((fh i).toInt = -1 ∧ ∀ q, q < Y → ¬ b q = nI i) ∨ (0 ≤ (fh i).toInt ∧ (fh i).toInt < (Y : Int) ∧ b (fh i).toNatClampNeg = nI i)) n
theorem HoP.none {fh b : Nat → Int32} {n : Int} {Y : Nat} (h : HoP fh b n Y) (hb : (b Y).toInt = -1) (hn : n ≤ 40) : HoP fh b n (Y + 1) := by
  intro i hi
  have nn : (nI i).toInt = i := nI_toInt (by omega)
  rcases h i hi with ⟨a, c⟩ | ⟨a, c, d⟩
  · refine Or.inl ⟨a, fun q hq e => ?_⟩
    by_cases z : q = Y
    · subst z; have := t_eq e; omega
    · exact c q (by omega) e
  · exact Or.inr ⟨a, by omega, d⟩
theorem HoP.some {fh b : Nat → Int32} {n : Int} {Y : Nat} {r yy : Int32} (h : HoP fh b n Y) (hr : 0 ≤ r.toInt) (hn : n ≤ 40) (hy : yy.toInt = (Y : Int)) : HoP (upd fh r.toNatClampNeg yy) (upd b Y r) n (Y + 1) := by
  intro i hi
  have nn : (nI i).toInt = i := nI_toInt (by omega)
  have hc := t_cl hr
  have hcy := t_cl (x := yy) (by omega)
  by_cases e : i = r.toNatClampNeg
  · subst e
    refine Or.inr ?_
    rw [upd_at, show yy.toNatClampNeg = Y by omega, upd_at, nI_ix hr]
    exact ⟨by omega, by omega, rfl⟩
  · have er : ¬ r = nI i := fun z => by have := t_eq z; omega
    rcases h i hi with ⟨a, c⟩ | ⟨a, c, d⟩
    · refine Or.inl ⟨by rw [upd_no e]; exact a, fun q hq z => ?_⟩
      by_cases w : q = Y
      · subst w; rw [upd_at] at z; exact er z
      · rw [upd_no w] at z; exact c q (by omega) z
    · refine Or.inr ?_
      have hcf := t_cl a
      rw [upd_no e]
      exact ⟨a, by omega, by rw [upd_no (by omega)]; exact d⟩
theorem upd_self {f : Nat → Int32} {k : Nat} : upd f k (f k) = f := by
  funext j
  by_cases e : j = k
  · subst e; exact upd_at
  · exact upd_no e
theorem IsPick.nil {ok : Nat → Prop} {key : Nat → Int} {n : Int} {r : Int32} (h : IsPick ok key n r) (hr : r.toInt = -1) : Al (fun q => ¬ ok q) n := by
  rcases h with h | h
  · exact h.2
  · omega
def okSt (fs : Nat → Int32) (y q : Nat) : Prop := (fs q).toInt = (y : Int)
/-- all of the class's rows at the start of the day y -/
def FeP (ff fk fs fh fr fg : Nat → Int32) (n : Int) (y : Nat) : Prop := HeldR ff fk n fr y ∧ StP ff fk fs fr n y ∧ CtP fs fg n y ∧ HoP fh fr n y ∧ InR fg 365 0 (41 + 40 * (y : Int)) ∧ (∀ q, y ≤ q → q < 365 → (fr q).toInt = -1)
theorem FeP.none {ff fk fs fh fr fg : Nat → Int32} {n : Int} {y : Nat} (h : FeP ff fk fs fh fr fg n y) (hn : n ≤ 40) (hy : y < 365) (hc : Al (fun i => ¬ okSt fs y i) n) : FeP ff fk fs fh fr fg n (y + 1) := by
  obtain ⟨h1, h2, h3, h4, h5, h6⟩ := h
  have hb : (fr y).toInt = -1 := h6 y (by omega) hy
  refine ⟨?_, ?_, ?_, h4.none hb hn, h5.mono (by omega) (by omega) (by omega), fun q a b => h6 q (by omega) b⟩
  · have z := h1.up (r := fr y) (Or.inl ⟨hb, fun i hi q => hc i hi ((h2 i hi).1.mp q)⟩)
    rw [upd_self] at z
    exact z
  · have z := h2.up (gs := fs) (r := fr y) (fun i hi => Or.inr ⟨fun m => hc i hi m.2.1, rfl⟩)
    rw [upd_self] at z
    exact z
  · exact fun i hi a b => h3 i hi (by omega) b
def HoldL (fk fs0 fg0 : Nat → Int32) (r : Int32) (y : Nat) (j : Int) (fs fg : Nat → Int32) : Prop := Al (MvR fk fs0 fs r y) j ∧ (∀ q : Nat, j ≤ (q : Int) → fs q = fs0 q) ∧ Al (fun q => (fg0 q).toInt ≤ (fg q).toInt) 365 ∧ InR fg 365 0 (41 + 40 * (y : Int) + j) ∧ (∀ q : Nat, (q : Int) < j → MvP fk fs0 r y q → y + 1 < 365 → 0 < (fg (y + 1)).toInt)
theorem HoldL.zero {fk fs fg : Nat → Int32} {r : Int32} {y : Nat} {j : Int} (h : InR fg 365 0 (41 + 40 * (y : Int))) (hj : j = 0) : HoldL fk fs fg r y j fs fg :=
  ⟨Al.zero (by omega), fun _ _ => rfl, fun _ _ => Int.le_refl _, h.mono (by omega) (by omega) (by omega), fun q hq => absurd hq (by omega)⟩
theorem HoldL.stay {fk fs0 fg0 fs fg : Nat → Int32} {r j : Int32} {y : Nat} {b : Int} (h : HoldL fk fs0 fg0 r y j.toInt fs fg) (h0 : 0 ≤ j.toInt) (hb : b = j.toInt + 1) (hm : ¬ MvP fk fs0 r y j.toNatClampNeg) : HoldL fk fs0 fg0 r y b fs fg := by
  obtain ⟨h1, h2, h3, h4, h5⟩ := h
  have hc := t_cl h0
  refine ⟨h1.up h0 (Or.inr ⟨hm, h2 _ (by omega)⟩) (by omega), fun q hq => h2 q (by omega), h3, h4.mono (by omega) (by omega) (by omega), fun q hq m => ?_⟩
  by_cases e : q = j.toNatClampNeg
  · subst e; exact absurd m hm
  · exact h5 q (by omega) m
theorem HoldL.move {fk fs0 fg0 fs fg gs gg : Nat → Int32} {r j yy : Int32} {y : Nat} {b : Int} (h : HoldL fk fs0 fg0 r y j.toInt fs fg) (h0 : 0 ≤ j.toInt) (hj : j.toInt < 40) (hb : b = j.toInt + 1) (hm : MvP fk fs0 r y j.toNatClampNeg) (hy : y < 365) (hyy : yy.toInt = (y : Int) + 1) (hs : gs = upd fs j.toNatClampNeg yy) (hg : (yy.toInt < 365 ∧ gg = upd fg yy.toNatClampNeg (fg yy.toNatClampNeg + 1)) ∨ (365 ≤ yy.toInt ∧ gg = fg)) : HoldL fk fs0 fg0 r y b gs gg := by
  obtain ⟨h1, h2, h3, h4, h5⟩ := h
  have hc := t_cl h0
  have hcy := t_cl (x := yy) (by omega)
  subst hs
  have k1 : (1 : Int32).toInt = 1 := by decide
  have hgg : ∀ q : Nat, (q : Int) < 365 → ((q ≠ y + 1 ∧ gg q = fg q) ∨ (q = y + 1 ∧ (gg q).toInt = (fg q).toInt + 1)) := by
    intro q hq
    rcases hg with ⟨a, rfl⟩ | ⟨a, rfl⟩
    · by_cases e : q = yy.toNatClampNeg
      · subst e
        rw [upd_at]
        have hi := h4 yy.toNatClampNeg hq
        exact Or.inr ⟨by omega, by rw [t_add (x := fg yy.toNatClampNeg + 1) rfl (by omega) (by omega)]; omega⟩
      · exact Or.inl ⟨by omega, upd_no e⟩
    · exact Or.inl ⟨by omega, rfl⟩
  refine ⟨fun q hq => ?_, fun q hq => ?_, fun q hq => ?_, fun q hq => ?_, fun q hq m hl => ?_⟩
  · by_cases e : q = j.toNatClampNeg
    · subst e
      exact Or.inl ⟨hm, by rw [upd_at]; omega⟩
    · rcases h1 q (by omega) with z | z
      · exact Or.inl ⟨z.1, by rw [upd_no e]; exact z.2⟩
      · exact Or.inr ⟨z.1, by rw [upd_no e]; exact z.2⟩
  · rw [upd_no (by omega)]; exact h2 q (by omega)
  · have z : (fg0 q).toInt ≤ (fg q).toInt := h3 q hq
    show (fg0 q).toInt ≤ (gg q).toInt
    rcases hgg q hq with ⟨_, w⟩ | ⟨_, w⟩
    · rw [w]; exact z
    · omega
  · have z := h4 q hq
    rcases hgg q hq with ⟨_, w⟩ | ⟨_, w⟩
    · rw [w]; omega
    · omega
  · have z := h4 (y + 1) (by omega)
    rcases hgg (y + 1) (by omega) with ⟨w, _⟩ | ⟨_, w⟩
    · exact absurd rfl w
    · omega
theorem FeP.hold {ff fk fs fh fr fg gs gg : Nat → Int32} {n : Int} {y : Nat} {r yy : Int32} (h : FeP ff fk fs fh fr fg n y) (hn : n ≤ 40) (hn0 : 0 ≤ n) (hp : IsPick (okSt fs y) (keyF ff fk y) n r) (hr : r.toInt ≠ -1) (hy : yy.toInt = (y : Int)) (hl : HoldL fk fs fg r y n gs gg) : FeP ff fk gs (upd fh r.toNatClampNeg yy) (upd fr y r) gg n (y + 1) := by
  obtain ⟨h1, h2, h3, h4, h5, h6⟩ := h
  obtain ⟨l1, l2, l3, l4, l5⟩ := hl
  have hr0 := hp.rg
  refine ⟨h1.up (hp.congr (fun i hi => (h2 i hi).1.symm)), h2.up l1, fun i hi a b => ?_, h4.some (by omega) hn hy, l4.mono (by omega) (by omega) (by omega), fun q a b => ?_⟩
  · rcases l1 i hi with ⟨m1, m2⟩ | ⟨m1, m2⟩
    · have hc := t_cl (x := gs i) (by omega)
      rw [show (gs i).toNatClampNeg = y + 1 by omega]
      exact l5 i hi m1 (by omega)
    · rw [m2] at a b ⊢
      have hc := t_cl (x := fs i) (by omega)
      have z : 0 < (fg (fs i).toNatClampNeg).toInt := h3 i hi (by omega) b
      have w : (fg (fs i).toNatClampNeg).toInt ≤ (gg (fs i).toNatClampNeg).toInt := l3 (fs i).toNatClampNeg (by omega)
      omega
  · rw [upd_no (by omega)]; exact h6 q (by omega) b
/-- the rows as the feasts are put where they fall -/
def SetL (ff fs fo fg : Nat → Int32) (j : Int) : Prop := Al (fun q => fs q = ff q) j ∧ Al (fun q => (fo q).toInt = -1) j ∧ InR fg 365 0 (1 + j) ∧ Al (fun q => 0 < (fg (ff q).toNatClampNeg).toInt) j
theorem SetL.up {ff fs fo fg go gg : Nat → Int32} {j v m1 : Int32} {b : Int} (h : SetL ff fs fo fg j.toInt) (h0 : 0 ≤ j.toInt) (hj : j.toInt < 40) (hb : b = j.toInt + 1) (hm : m1.toInt = -1) (hv : v = ff j.toNatClampNeg) (hv0 : 0 ≤ v.toInt) (hv1 : v.toInt < 365) (ho : go = upd fo j.toNatClampNeg m1) (hg : (v.toInt < 365 ∧ gg = upd fg v.toNatClampNeg (fg v.toNatClampNeg + 1)) ∨ (365 ≤ v.toInt ∧ gg = fg)) : SetL ff (upd fs j.toNatClampNeg v) go gg b := by
  obtain ⟨h1, h2, h3, h4⟩ := h
  have hc := t_cl h0
  have hcv := t_cl hv0
  have k1 : (1 : Int32).toInt = 1 := by decide
  subst ho
  rcases hg with ⟨_, rfl⟩ | ⟨a, _⟩
  · have hi := h3 v.toNatClampNeg (by omega)
    have e1 : (fg v.toNatClampNeg + 1 : Int32).toInt = (fg v.toNatClampNeg).toInt + 1 := by rw [t_add (x := fg v.toNatClampNeg + 1) rfl (by omega) (by omega)]; omega
    refine ⟨fun q hq => ?_, fun q hq => ?_, fun q hq => ?_, fun q hq => ?_⟩
    · show upd fs j.toNatClampNeg v q = ff q
      by_cases e : q = j.toNatClampNeg
      · subst e; rw [upd_at]; exact hv
      · rw [upd_no e]; exact h1 q (by omega)
    · show (upd fo j.toNatClampNeg m1 q).toInt = -1
      by_cases e : q = j.toNatClampNeg
      · subst e; rw [upd_at]; exact hm
      · rw [upd_no e]; exact h2 q (by omega)
    · by_cases e : q = v.toNatClampNeg
      · subst e; rw [upd_at]; omega
      · rw [upd_no e]; have := h3 q hq; omega
    · show 0 < (upd fg v.toNatClampNeg (fg v.toNatClampNeg + 1) (ff q).toNatClampNeg).toInt
      by_cases e : (ff q).toNatClampNeg = v.toNatClampNeg
      · rw [e, upd_at]; omega
      · rw [upd_no e]
        by_cases e2 : q = j.toNatClampNeg
        · subst e2; rw [← hv] at e; exact absurd rfl e
        · exact h4 q (by omega)
  · omega
theorem FeP.zero {ff fk fs fo fr fg : Nat → Int32} {n : Int} (h : SetL ff fs fo fg n) (hn : n ≤ 40) (hr : Al (fun q => fr q = -1) 365) (hf : InR ff n 0 365) : FeP ff fk fs fo fr fg n 0 := by
  obtain ⟨h1, h2, h3, h4⟩ := h
  refine ⟨HeldR.zero, fun i hi => ?_, fun i hi a b => ?_, fun i hi => Or.inl ⟨h2 i hi, fun q hq => absurd hq (by omega)⟩, h3.mono (by omega) (by omega) (by omega), fun q a b => ?_⟩
  · have e : fs i = ff i := h1 i hi
    have z := hf i hi
    show (CandF ff fk fr 0 i ↔ (fs i).toInt = ((0 : Nat) : Int)) ∧ (((0 : Nat) : Int) < (ff i).toInt → (fs i).toInt = (ff i).toInt) ∧ (((0 : Nat) : Int) < (fs i).toInt → (ff i).toInt = (fs i).toInt)
    rw [e]
    exact ⟨Iff.rfl, fun _ => rfl, fun _ => rfl⟩
  · have e : fs i = ff i := h1 i hi
    rw [e]
    exact h4 i hi
  · have e : fr q = -1 := hr q (by omega)
    rw [e]; decide
theorem HeldR.inr {ff fk b : Nat → Int32} {n : Int} {Y : Nat} (h : HeldR ff fk n b Y) (hn : 0 ≤ n) : InR b Y (-1) n := by
  intro y hy
  have := (h y (by omega)).rg
  omega
theorem al_iff {f : Nat → Int32} {P : Nat → Prop} {j x : Int32} {b : Int} (h : Al (fun q => ¬ f q = 0 ↔ P q) j.toInt) (h0 : 0 ≤ j.toInt) (hb : b ≤ j.toInt + 1) (hx : ¬ x = 0 ↔ P j.toNatClampNeg) : Al (fun q => ¬ upd f j.toNatClampNeg x q = 0 ↔ P q) b := by
  intro q hq
  have hc := t_cl h0
  show ¬ upd f j.toNatClampNeg x q = 0 ↔ P q
  by_cases e : q = j.toNatClampNeg
  · subst e; rw [upd_at]; exact hx
  · rw [upd_no e]; exact h q (by omega)
theorem nar0 : vp_nar .boolean 0 = 0 := by decide
theorem nar1 : ¬ vp_nar .boolean 1 = 0 := by decide

