theorem fast_rk {Fo : Int32 → Prop} {X Dy : Prop} {hol fr ff ho : Nat → Int32} {m : Int} {y : Int32} (h : (¬ Dy ∧ X) ∨ (Dy ∧ ∃ rk : Int32, (∃ hd : Int32, HelC m hol y hd ∧ RkR fr hd rk) ∧ Fo rk)) (hfe : 0 < m → HeldR ff fr m hol 365 ∧ HoP ho hol m 365) (hm : 0 ≤ m) : ∃ rk : Int32, (Dy → RankR ff fr m y rk) ∧ ((¬ Dy ∧ X) ∨ (Dy ∧ Fo rk)) := by
  rcases h with h | ⟨a, rk, ⟨hd, h1, h2⟩, h3⟩
  · exact ⟨0, fun z => absurd z h.1, Or.inl h⟩
  · exact ⟨rk, fun _ => RankR.mk h1 h2 hfe hm, Or.inr ⟨a, h3⟩⟩
theorem rule_rows {fn fz fk fa fb gn gz gs gf gg fn1 fz1 fk1 fa1 fb1 gn1 gz1 gs1 gf1 gg1 K V : Nat → Int32} {z z1 tx ty : Int32} (hsn : Al (fun q_ => fn q_ = gn q_) z.toInt) (hre : RulE z.toInt fz fk fa fb gz gs gf gg) (hs : InR fz z.toInt 0 17) (h0 : 0 ≤ z.toInt) (h10 : z.toInt ≤ 10) (ht : tx.toInt = ty.toInt) (hb : (∀ q_ : Nat, (q_ : Int) < z.toInt → gz1 q_ = gz q_ ∧ gn1 q_ = gn q_) ∧ BelR gs gf gg gs1 gf1 gg1 (16 * z.toNatClampNeg))
    (hr : (z1 = z ∧ (fn1 = fn ∧ fz1 = fz ∧ fk1 = fk ∧ fa1 = fa ∧ fb1 = fb)) ∨ (z1 = z + 1 ∧ ∃ c : Nat, c ≤ 16 ∧ (fn1 = upd fn z.toNatClampNeg tx ∧ (∃ x : Int32, fz1 = upd fz z.toNatClampNeg x ∧ x.toInt = (c : Int)) ∧ BelR fk fa fb fk1 fa1 fb1 (16 * z.toNatClampNeg) ∧ Al (RowK K V fk1 fa1 fb1 (16 * z.toNatClampNeg)) (c : Int)) ∧ (gn1 z.toNatClampNeg = ty ∧ (gz1 z.toNatClampNeg).toInt = (c : Int) ∧ Al (RowM K V gs1 gf1 gg1 (16 * z.toNatClampNeg)) (c : Int)))) : Al (fun q_ => fn1 q_ = gn1 q_) z1.toInt ∧ RulE z1.toInt fz1 fk1 fa1 fb1 gz1 gs1 gf1 gg1 := by
  have cz := t_cl h0
  rcases hr with ⟨e, e1, e2, e3, e4, e5⟩ | ⟨e, c, hc, ⟨e1, ⟨x, e2, e3⟩, e4, e5⟩, d1, d2, d3⟩
  · subst e e1 e2 e3 e4 e5
    exact ⟨fun q hq => (hsn q hq).trans (hb.1 q hq).2.symm, RulE.keep hre rfl h0 hs (fun q hq => (hb.1 q hq).1) hb.2⟩
  · have t1 : z1.toInt = z.toInt + 1 := by
      have k : (1 : Int32).toInt = 1 := by decide
      have w := t_add e (by omega) (by omega)
      omega
    refine ⟨fun q hq => ?_, ?_⟩
    · show fn1 q = gn1 q
      rw [e1]
      by_cases w : q = z.toNatClampNeg
      · rw [w, upd_at, d1]
        exact i32_ext ht
      · rw [upd_no w]
        exact (hsn q (by omega)).trans (hb.1 q (by omega)).2.symm
    · rw [t1]
      exact RulE.more hre rfl h0 hs e2 e3 hc e4 e5 (fun q hq => (hb.1 q hq).1) d2 hb.2 d3

