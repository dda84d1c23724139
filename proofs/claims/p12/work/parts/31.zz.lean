/-- the class's rule, its tokens named -/
def RulC (K V : Nat → Int32) (P : Nat → Nat) (n l z r f0 f1 l1 z1 : Int32) : Prop :=
  (¬ (0 ≤ n.toInt ∧ n.toInt ≤ l.toInt) ∧ r.toInt = -2 ∧ f1 = f0 ∧ l1 = l ∧ z1 = z) ∨ ((0 ≤ n.toInt ∧ n.toInt ≤ l.toInt) ∧ z.toInt = 10 ∧ r.toInt = -3 ∧ f1 = f0 ∧ l1 = l ∧ z1 = z) ∨
  ((0 ≤ n.toInt ∧ n.toInt ≤ l.toInt) ∧ z.toInt < 10 ∧ l1 = 0 ∧ (∃ c_ i_ f_ : Nat, OutR K V (f1.toInt = -1) c_ i_ f_ ∧ f_ ≤ 96 ∧ (f1.toInt ≠ -1 → f1.toNatClampNeg = P f_ ∧ 0 ≤ f1.toInt)) ∧ ((f1.toInt = -1 ∧ r.toInt = z.toInt ∧ z1 = z + 1) ∨ (f1.toInt ≠ -1 ∧ r.toInt = -1 ∧ z1 = z)))
theorem rule_ex {tx : Nat → Int32} {n l z r f0 f1 l1 z1 : Int32} (h : (¬ (0 ≤ n.toInt ∧ n.toInt ≤ l.toInt) ∧ r.toInt = -2 ∧ f1 = f0 ∧ l1 = l ∧ z1 = z) ∨ ((0 ≤ n.toInt ∧ n.toInt ≤ l.toInt) ∧ z.toInt = 10 ∧ r.toInt = -3 ∧ f1 = f0 ∧ l1 = l ∧ z1 = z) ∨ ((0 ≤ n.toInt ∧ n.toInt ≤ l.toInt) ∧ z.toInt < 10 ∧ l1 = 0 ∧ (∃ (s_ : Int32) (fk_ fp_ fv_ : Nat → Int32) (c_ i_ f_ : Nat), TokA tx n.toNatClampNeg s_ n fk_ fp_ fv_ ∧ i_ ≤ 96 ∧ f_ ≤ 96 ∧ OutR (kC s_ fk_) (kC s_ fv_) (f1.toInt = -1) c_ i_ f_ ∧ (f1.toInt ≠ -1 → f1 = pC s_ n fp_ f_)) ∧ ((f1.toInt = -1 ∧ r.toInt = z.toInt ∧ z1 = z + 1) ∨ (f1.toInt ≠ -1 ∧ r.toInt = -1 ∧ z1 = z)))) : ∃ (K V : Nat → Int32) (P : Nat → Nat), ((0 ≤ n.toInt ∧ n.toInt ≤ l.toInt) → z.toInt < 10 → ∀ j_ : Nat, j_ ≤ 96 → KindR tx n.toNatClampNeg j_ (K j_) (V j_) (P j_)) ∧ RulC K V P n l z r f0 f1 l1 z1 := by
  rcases h with h | h | ⟨a, b, c, ⟨s_, fk, fp, fv, cc, i, f, t1, t2, t3, t4, t5⟩, d⟩
  · exact ⟨fun _ => 0, fun _ => 0, fun _ => 0, fun x _ => absurd x h.1, Or.inl h⟩
  · exact ⟨fun _ => 0, fun _ => 0, fun _ => 0, fun _ x => by have := h.2.1; omega, Or.inr (Or.inl h)⟩
  · refine ⟨kC s_ fk, kC s_ fv, fun j => (pC s_ n fp j).toNatClampNeg, fun _ _ j hj => (t1 j hj).1, Or.inr (Or.inr ⟨a, b, c, ⟨cc, i, f, t4, t3, fun x => ?_⟩, d⟩)⟩
    have e := t5 x
    have p := (t1 f t3).2
    rw [← e] at p
    exact ⟨by rw [e], p⟩
theorem rule_rel {K V : Nat → Int32} {P : Nat → Nat} {n l z r f0 f1 l1 z1 r' f1' l1' z1' : Int32} (h : RulC K V P n l z r f0 f1 l1 z1) (h' : RulC K V P n l z r' f0 f1' l1' z1') : r = r' ∧ f1 = f1' ∧ l1 = l1' ∧ z1 = z1' := by
  rcases h with ⟨a, b, c, d, e⟩ | ⟨a, b, c, d, e, f⟩ | ⟨a, b, c, ⟨k, i, f, o1, o2, o3⟩, e⟩ <;> rcases h' with ⟨a', b', c', d', e'⟩ | ⟨a', b', c', d', e', f'⟩ | ⟨a', b', c', ⟨k', i', f', o1', o2', o3'⟩, e'⟩
  · exact ⟨i32_ext (by omega), c.trans c'.symm, d.trans d'.symm, e.trans e'.symm⟩
  · exact absurd a' a
  · exact absurd a' a
  · exact absurd a a'
  · exact ⟨i32_ext (by omega), d.trans d'.symm, e.trans e'.symm, f.trans f'.symm⟩
  · omega
  · exact absurd a a'
  · omega
  · obtain ⟨u1, u2, u3, u4⟩ := o1.uniq o1'
    have ef : f1 = f1' := by
      by_cases x : f1.toInt = -1
      · exact i32_ext (by have := u3.mp x; omega)
      · have x' : f1'.toInt ≠ -1 := fun y => x (u3.mpr y)
        have p := o3 x
        have p' := o3' x'
        rw [u4 x] at p
        have c1 := t_cl p.2
        have c2 := t_cl p'.2
        exact i32_ext (by omega)
    subst ef
    refine ⟨?_, rfl, c.trans c'.symm, ?_⟩
    · rcases e with ⟨x, y, w⟩ | ⟨x, y, w⟩ <;> rcases e' with ⟨x', y', w'⟩ | ⟨x', y', w'⟩
      · exact i32_ext (by omega)
      · exact absurd x x'
      · exact absurd x' x
      · exact i32_ext (by omega)
    · rcases e with ⟨x, y, w⟩ | ⟨x, y, w⟩ <;> rcases e' with ⟨x', y', w'⟩ | ⟨x', y', w'⟩
      · exact w.trans w'.symm
      · exact absurd x x'
      · exact absurd x' x
      · exact w.trans w'.symm
theorem feedT {X Y R R' : Prop} {l n1 : Int32} (h : ((l.toInt ≤ 580) ∧ X ∧ n1 = l20F l ∧ R) ∨ (¬ (l.toInt ≤ 580) ∧ Y ∧ n1 = l ∧ R')) (h0 : 0 ≤ l.toInt) : (l.toInt ≤ 580 ∧ X ∧ n1.toInt = l.toInt + 20) ∨ (¬ l.toInt ≤ 580 ∧ Y ∧ n1.toInt = l.toInt) := by
  rcases h with ⟨a, b, c, _⟩ | ⟨a, b, c, _⟩
  · have e1 := l4_toInt (x := l4F l) rfl h0 (by omega)
    have e2 := l4_toInt (x := l4F (l4F l)) rfl (by omega) (by omega)
    have e3 := l4_toInt (x := l4F (l4F (l4F l))) rfl (by omega) (by omega)
    have e4 := l4_toInt (x := l4F (l4F (l4F (l4F l)))) rfl (by omega) (by omega)
    have e5 := l4_toInt (x := l4F (l4F (l4F (l4F (l4F l))))) rfl (by omega) (by omega)
    refine Or.inl ⟨a, b, ?_⟩
    rw [c]
    show (l4F (l4F (l4F (l4F (l4F l))))).toInt = l.toInt + 20
    omega
  · exact Or.inr ⟨a, b, by rw [c]⟩

