theorem feedT {X Y R R' : Prop} {l n1 : Int32} (h : ((l.toInt ≤ 580) ∧ X ∧ n1 = l20F l ∧ R) ∨ (¬ (l.toInt ≤ 580) ∧ Y ∧ n1 = l ∧ R')) (h0 : 0 ≤ l.toInt) : (l.toInt ≤ 580 ∧ X ∧ n1.toInt = l.toInt + 20) ∨ (¬ l.toInt ≤ 580 ∧ Y ∧ n1.toInt = l.toInt) := by
  rcases h with ⟨a, b, c, _⟩ | ⟨a, b, c, _⟩
  · have e1 := l4_toInt (x := l4F l) rfl h0 (by omega)
    have e2 := l4_toInt (x := l4F (l4F l)) rfl (by omega) (by omega)
    have e3 := l4_toInt (x := l4F (l4F (l4F l))) rfl (by omega) (by omega)
    have e4 := l4_toInt (x := l4F (l4F (l4F (l4F l)))) rfl (by omega) (by omega)
    have e5 := l4_toInt (x := l4F (l4F (l4F (l4F (l4F l))))) rfl (by omega) (by omega)
    refine Or.inl ⟨a, b, ?_⟩
    rw [c]
    show (l4F (l4F (l4F (l4F (l4F l))))).toInt = l.toInt + 20
    omega
  · exact Or.inr ⟨a, b, by rw [c]⟩

