theorem store_rel {P : Prop} {a x r r' n n' : Int32} (h : (P ∧ r = a + x ∧ n = a + x) ∨ (¬ P ∧ r.toInt = -1 ∧ n = a)) (h' : (P ∧ r' = a + x ∧ n' = a + x) ∨ (¬ P ∧ r'.toInt = -1 ∧ n' = a)) : r = r' ∧ n = n' := by
  rcases h with ⟨p, b, c⟩ | ⟨p, b, c⟩ <;> rcases h' with ⟨p', b', c'⟩ | ⟨p', b', c'⟩
  · exact ⟨b.trans b'.symm, c.trans c'.symm⟩
  · exact absurd p p'
  · exact absurd p' p
  · exact ⟨i32_ext (by omega), c.trans c'.symm⟩
theorem guestR {Gq : Prop} {hd hd1 rk rk1 x k r r2 : Int32} {f f1 : Nat → Int32} (hg : hd = sum6 f) (hk : rk = rks6 f) (h1 : ((Gq ∧ (hd + x).toInt ≤ 200) ∧ r = hd + x ∧ hd1 = hd + x ∧ rk1 = rk + x * k) ∨ (¬ (Gq ∧ (hd + x).toInt ≤ 200) ∧ r.toInt = -1 ∧ hd1 = hd ∧ rk1 = rk)) (h2 : ((Gq ∧ (sum6 f + x).toInt ≤ 200) ∧ r2 = sum6 f + x ∧ sum6 f1 = sum6 f + x ∧ rks6 f1 = rks6 f + x * k) ∨ (¬ (Gq ∧ (sum6 f + x).toInt ≤ 200) ∧ r2.toInt = -1 ∧ f1 = f)) : r = r2 ∧ hd1 = sum6 f1 ∧ rk1 = rks6 f1 := by
  subst hg hk
  rcases h1 with ⟨p, b, c, d⟩ | ⟨p, b, c, d⟩ <;> rcases h2 with ⟨p', b', c'⟩ | ⟨p', b', c'⟩
  · exact ⟨b.trans b'.symm, c.trans c'.1.symm, d.trans c'.2.symm⟩
  · exact absurd p p'
  · exact absurd p' p
  · exact ⟨i32_ext (by omega), by rw [c, c'], by rw [d, c']⟩
theorem food_rel {fn fz fk fa fb gn gz gs gf gg g : Nat → Int32} {n : Int} {d rk hd gu nd hd' gu' nd' xm ym gh gr : Int32}
    (hH : ∃ u_ : Int32, IsPick (okIn fn d.toInt) keyL n u_ ∧ HedU (FasU 1 fz fk fa fb u_ d rk) (CC fk fa 3 0) (CC fk fa 4 rk) (CC fk fa 6 0) fb fz u_ rk hd) (hG : ∃ u_ : Int32, IsPick (okIn fn d.toInt) keyL n u_ ∧ GueU (CC fk fa 5 0) fb fz u_ gu) (hn : nd = xm * hd + gh * gu + gr)
    (hH' : ∃ u_ : Int32, IsPick (okIn gn d.toInt) keyL n u_ ∧ HedU (FasU 0 gz gs gf gg u_ d rk) (CM gs gf 2 0) (CM gs gf 3 rk) (CM gs gf 5 0) gg gz u_ rk hd') (hG' : ∃ u_ : Int32, IsPick (okIn gn d.toInt) keyL n u_ ∧ GueU (CM gs gf 4 0) gg gz u_ gu') (hn' : nd' = ym * hd' + sum6 g * gu' + rks6 g)
    (hm : xm.toInt = ym.toInt) (hgu : gh = sum6 g) (hgr : gr = rks6 g) (hsn : Al (fun q_ => fn q_ = gn q_) n) (hre : RulE n fz fk fa fb gz gs gf gg) : nd = nd' := by
  have eP : ∀ u u', IsPick (okIn fn d.toInt) keyL n u → IsPick (okIn gn d.toInt) keyL n u' → u = u' := fun u u' p p' => p.uniq p' (fun q hq => by show (fn q).toInt ≤ d.toInt ↔ (gn q).toInt ≤ d.toInt; rw [show fn q = gn q from hsn q hq]) (fun _ _ _ => rfl)
  obtain ⟨u, p, x⟩ := hH
  obtain ⟨u', p', x'⟩ := hH'
  have e := eP u u' p p'
  subst e
  have e1 : hd = hd' := HedU.rel x x' (FasU.rel hre p.rg) (fun _ _ y y' => LasU.rel hre p.rg (by decide) (Or.inr ⟨Or.inl (by decide), rfl⟩) y y') (fun _ _ y y' => LasU.rel hre p.rg (by decide) (Or.inl (by decide)) y y') (fun _ _ y y' => LasU.rel hre p.rg (by decide) (Or.inr ⟨Or.inr (Or.inr (by decide)), rfl⟩) y y')
  obtain ⟨w, q, y⟩ := hG
  obtain ⟨w', q', y'⟩ := hG'
  have e2 := eP w w' q q'
  subst e2
  have e3 : gu = gu' := GueU.rel y y' (fun _ _ a a' => LasU.rel hre q.rg (by decide) (Or.inr ⟨Or.inr (Or.inl (by decide)), rfl⟩) a a')
  rw [hn, hn', e1, e3, hgu, hgr, i32_ext hm]

