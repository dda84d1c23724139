theorem free_iff {hc hm : Nat → Int32} {d i : Int32} (h : ∀ v, v < 4 → hc (4 * d.toNatClampNeg + v) = hm (4 * d.toNatClampNeg + v)) : FreeP hc d i ↔ FreeP hm d i := by
  constructor
  · intro a v hv e
    have e : hm (4 * d.toNatClampNeg + v) = i := e
    exact a v hv (by show hc (4 * d.toNatClampNeg + v) = i; rw [h v (by omega)]; exact e)
  · intro a v hv e
    have e : hc (4 * d.toNatClampNeg + v) = i := e
    exact a v hv (by show hm (4 * d.toNatClampNeg + v) = i; rw [← h v (by omega)]; exact e)
theorem day_share {fb fj fa ff fo fc ft fw gc gt gw gs : Nat → Int32} {nr n L : Int} {d : Int32} (h : ∃ fg_ : Nat → Int32, Al (fun q_ => fg_ q_ = fc q_) L ∧ ShareR (okS fb fj fa ff fo nr d) n d.toNatClampNeg 4 (clrF fg_ d.toNatClampNeg 4) ft gc gt) (h' : ShareR (okB fb fj fa ff fo nr d (-1)) n d.toNatClampNeg 4 fw ft gw gs) (hn : n ≤ 24) (h0 : 0 ≤ d.toInt) (hd : d.toInt < 1094) (hL : 4 * d.toInt ≤ L) (hw : Al (fun q_ => fc q_ = fw q_) (4 * d.toInt)) (hwn : ∀ q_ : Nat, 4 * d.toInt ≤ (q_ : Int) → q_ < 4380 → fw q_ = -1) : gt = gs ∧ Al (fun q_ => gc q_ = gw q_) (4 * (d.toInt + 1)) ∧ (∀ q_ : Nat, 4 * (d.toInt + 1) ≤ (q_ : Int) → q_ < 4380 → gw q_ = -1) := by
  obtain ⟨fg, hfg, hs⟩ := h
  have hc := t_cl h0
  have m1 : (-1 : Int32).toInt = -1 := by decide
  have hok : ∀ (hc_ hm : Nat → Int32) (k : Int32), (∀ v, v < 4 → hc_ (4 * d.toNatClampNeg + v) = hm (4 * d.toNatClampNeg + v)) → Al (fun q => okS fb fj fa ff fo nr d hc_ k q ↔ okB fb fj fa ff fo nr d (-1) hm k q) n := by
    intro hc_ hm k hv q hq
    have nn : (nI q).toInt = q := nI_toInt (by omega)
    have ne : ¬ nI q = -1 := fun z => by have z1 := t_eq z; omega
    have fi := free_iff (i := nI q) hv
    show okS fb fj fa ff fo nr d hc_ k q ↔ okB fb fj fa ff fo nr d (-1) hm k q
    constructor
    · intro a
      exact ⟨ne, a.1, fi.mp a.2.1, a.2.2⟩
    · intro a
      exact ⟨a.2.1, fi.mpr a.2.2.1, a.2.2.2⟩
  have h0' : ∀ v, v < 4 → clrF fg d.toNatClampNeg 4 (4 * d.toNatClampNeg + v) = fw (4 * d.toNatClampNeg + v) := fun v hv => by
    rw [clrF_in 4 v hv, hwn _ (by omega) (by omega)]
  obtain ⟨r1, r2⟩ := ShareR.rel hok h0' 4 _ _ _ _ hs h'
  refine ⟨r2, fun q hq => ?_, fun q hq hq2 => ?_⟩
  · show gc q = gw q
    by_cases e : q < 4 * d.toNatClampNeg
    · rw [ShareR.out 4 _ _ (by omega) hs q (Or.inl e), ShareR.out 4 _ _ (by omega) h' q (Or.inl e), clrF_out 4 q (by omega) (Or.inl e)]
      have a : fg q = fc q := hfg q (by omega)
      have b : fc q = fw q := hw q (by omega)
      rw [a, b]
    · have z := r1 (q - 4 * d.toNatClampNeg) (by omega)
      rw [show 4 * d.toNatClampNeg + (q - 4 * d.toNatClampNeg) = q by omega] at z
      exact z
  · rw [ShareR.out 4 _ _ (by omega) h' q (Or.inr (by omega))]
    exact hwn q (by omega) hq2
theorem day_gifts {due leave P : Nat → Prop} {f2 fo fs fd goC gsC gdC goM gsM gdM : Nat → Int32} {n m : Nat} {ng : Int} (h : ∃ (fo_ : Nat → Int32) (c_ : Nat), OweR due leave f2 n fo fs fo_ gsC ∧ CntR P m c_ ∧ SayR ng c_ fo_ fd goC gdC) (h' : ∃ (fo_ : Nat → Int32) (c_ : Nat), OweR due leave f2 n fo fs fo_ gsM ∧ CntR P m c_ ∧ SayR ng c_ fo_ fd goM gdM) : goC = goM ∧ gsC = gsM ∧ gdC = gdM := by
  obtain ⟨a, c, a1, a2, a3⟩ := h
  obtain ⟨b, c', b1, b2, b3⟩ := h'
  obtain ⟨e1, e2⟩ := OweR.uniq _ _ _ _ _ a1 b1
  have e3 := CntR.uniq _ _ _ a2 b2
  subst e1
  subst e3
  obtain ⟨e4, e5⟩ := SayR.uniq _ _ _ _ _ a3 b3
  exact ⟨e4, e2, e5⟩
theorem fail_rel {fb fj fa ff fo fc ft fw gc gt gw gs : Nat → Int32} {nr n : Int} {t k r r' : Int32}
    (h : (∃ d_ : Int32, d_.toInt = t.toInt - 1 ∧ (0 < t.toInt ∧ 0 ≤ k.toInt ∧ k.toInt ≤ 3) ∧ ¬ fc (4 * d_.toNatClampNeg + k.toNatClampNeg) = -1 ∧ IsPick (okS fb fj fa ff fo nr d_ fc k) (keyD ft k) n r ∧ gc = upd fc (4 * d_.toNatClampNeg + k.toNatClampNeg) r ∧ gt = givF (subF ft (fc (4 * d_.toNatClampNeg + k.toNatClampNeg)) k) r k) ∨ ((¬ (0 < t.toInt ∧ 0 ≤ k.toInt ∧ k.toInt ≤ 3) ∨ ∃ d_ : Int32, d_.toInt = t.toInt - 1 ∧ (0 < t.toInt ∧ 0 ≤ k.toInt ∧ k.toInt ≤ 3) ∧ fc (4 * d_.toNatClampNeg + k.toNatClampNeg) = -1) ∧ r.toInt = -2 ∧ gc = fc ∧ gt = ft))
    (h' : (∃ d_ : Int32, d_.toInt = t.toInt - 1 ∧ (0 < t.toInt ∧ 0 ≤ k.toInt ∧ k.toInt ≤ 3) ∧ ¬ fw (4 * d_.toNatClampNeg + k.toNatClampNeg) = -1 ∧ IsPick (okB fb fj fa ff fo nr d_ (fw (4 * d_.toNatClampNeg + k.toNatClampNeg)) (upd fw (4 * d_.toNatClampNeg + k.toNatClampNeg) (-1)) k) (keyD (subF ft (fw (4 * d_.toNatClampNeg + k.toNatClampNeg)) k) k) n r' ∧ gw = upd (upd fw (4 * d_.toNatClampNeg + k.toNatClampNeg) (-1)) (4 * d_.toNatClampNeg + k.toNatClampNeg) r' ∧ gs = givF (subF ft (fw (4 * d_.toNatClampNeg + k.toNatClampNeg)) k) r' k) ∨ ((¬ (0 < t.toInt ∧ 0 ≤ k.toInt ∧ k.toInt ≤ 3) ∨ ∃ d_ : Int32, d_.toInt = t.toInt - 1 ∧ (0 < t.toInt ∧ 0 ≤ k.toInt ∧ k.toInt ≤ 3) ∧ fw (4 * d_.toNatClampNeg + k.toNatClampNeg) = -1) ∧ r'.toInt = -2 ∧ gw = fw ∧ gs = ft))
    (ht1 : t.toInt ≤ 1094) (hn : n ≤ 24) (hr : InR fw 4380 (-1) 24) (hw : Al (fun q_ => fc q_ = fw q_) (4 * t.toInt)) (hwn : ∀ q_ : Nat, 4 * t.toInt ≤ (q_ : Int) → q_ < 4380 → fw q_ = -1) : r = r' ∧ gt = gs ∧ Al (fun q_ => gc q_ = gw q_) (4 * t.toInt) ∧ (∀ q_ : Nat, 4 * t.toInt ≤ (q_ : Int) → q_ < 4380 → gw q_ = -1) := by
  have m1 : (-1 : Int32).toInt = -1 := by decide
  have cell : ∀ d_ : Int32, d_.toInt = t.toInt - 1 → (0 < t.toInt ∧ 0 ≤ k.toInt ∧ k.toInt ≤ 3) → fc (4 * d_.toNatClampNeg + k.toNatClampNeg) = fw (4 * d_.toNatClampNeg + k.toNatClampNeg) := by
    intro d hd hk
    have a := t_cl (x := d) (by omega)
    have b := t_cl (x := k) (by omega)
    exact hw _ (by omega)
  rcases h with ⟨d, a1, a2, a3, a4, a5, a6⟩ | ⟨a1, a2, a3, a4⟩ <;> rcases h' with ⟨e, b1, b2, b3, b4, b5, b6⟩ | ⟨b1, b2, b3, b4⟩
  · have de : d = e := i32_ext (by omega)
    subst de
    have cd := t_cl (x := d) (by omega)
    have ck := t_cl (x := k) (by omega)
    have ec := cell d a1 a2
    rw [ec] at a6
    obtain ⟨x, hx⟩ : ∃ x : Nat, x = 4 * d.toNatClampNeg + k.toNatClampNeg := ⟨_, rfl⟩
    obtain ⟨v, hv⟩ : ∃ v : Int32, v = fw x := ⟨_, rfl⟩
    rw [← hx] at ec a3 a5 b3 b4 b5 a6 b6
    have hvr : -1 ≤ v.toInt ∧ v.toInt < 24 := by rw [hv]; exact hr x (by omega)
    rw [← hv] at b3 b4 a6 b6
    have hv0 : v.toInt ≠ -1 := fun z => b3 (i32_ext (by omega))
    have cv := t_cl (x := v) (by omega)
    have hok : Al (fun q => okS fb fj fa ff fo nr d fc k q ↔ okB fb fj fa ff fo nr d v (upd fw x (-1)) k q) n := by
      intro q hq
      have nn : (nI q).toInt = q := nI_toInt (by omega)
      have cells : ∀ u : Nat, u < 4 → 4 * d.toNatClampNeg + u ≠ x → fc (4 * d.toNatClampNeg + u) = upd fw x (-1) (4 * d.toNatClampNeg + u) := fun u hu z => by
        rw [upd_no z]; exact hw _ (by omega)
      show okS fb fj fa ff fo nr d fc k q ↔ okB fb fj fa ff fo nr d v (upd fw x (-1)) k q
      constructor
      · intro a
        refine ⟨fun z => ?_, a.1, fun u hu z => ?_, a.2.2⟩
        · have w : ¬ fc (4 * d.toNatClampNeg + k.toNatClampNeg) = nI q := a.2.1 k.toNatClampNeg (by omega)
          rw [← hx, ec, ← hv] at w
          exact w z.symm
        · have z : upd fw x (-1) (4 * d.toNatClampNeg + u) = nI q := z
          by_cases y : 4 * d.toNatClampNeg + u = x
          · rw [y, upd_at] at z
            have := t_eq z
            omega
          · rw [← cells u (by omega) y] at z
            exact a.2.1 u hu z
      · intro a
        refine ⟨a.2.1, fun u hu z => ?_, a.2.2.2⟩
        have z : fc (4 * d.toNatClampNeg + u) = nI q := z
        by_cases y : 4 * d.toNatClampNeg + u = x
        · rw [y, ec, ← hv] at z
          exact a.1 z.symm
        · rw [cells u (by omega) y] at z
          exact a.2.2.1 u hu z
    have hkey : Al (fun q => okS fb fj fa ff fo nr d fc k q → keyD ft k q = keyD (subF ft v k) k q) n := by
      intro q hq a
      have nn : (nI q).toInt = q := nI_toInt (by omega)
      have b : ¬ nI q = v := ((hok q hq).mp a).1
      have ne : q ≠ v.toNatClampNeg := fun z => b (i32_ext (by omega))
      unfold keyD subF
      rw [if_neg b3, upd_no (by omega)]
    have er := a4.uniq b4 hok hkey
    subst er
    refine ⟨rfl, a6.trans b6.symm, fun q hq => ?_, fun q hq hq2 => ?_⟩
    · show gc q = gw q
      rw [a5, b5]
      by_cases y : q = x
      · rw [y, upd_at, upd_at]
      · rw [upd_no y, upd_no y, upd_no y]; exact hw q hq
    · rw [b5, upd_no (by omega), upd_no (by omega)]; exact hwn q hq hq2
  · rcases b1 with b1 | ⟨e, b1, c1, c2⟩
    · exact absurd a2 b1
    · have de : d = e := i32_ext (by omega)
      subst de
      exact absurd ((cell d a1 a2).trans c2) a3
  · rcases a1 with a1 | ⟨d, a1, c1, c2⟩
    · exact absurd b2 a1
    · have de : d = e := i32_ext (by omega)
      subst de
      exact absurd ((cell d a1 c1).symm.trans c2) b3
  · refine ⟨i32_ext (by omega), a4.trans b4.symm, fun q hq => ?_, fun q hq hq2 => ?_⟩
    · show gc q = gw q
      rw [a3, b3]; exact hw q hq
    · rw [b3]; exact hwn q hq hq2
