theorem two {C A B A' B' : Prop} (h : (C ∧ A) ∨ (¬ C ∧ B)) (h' : (C ∧ A') ∨ (¬ C ∧ B')) : (C ∧ A ∧ A') ∨ (¬ C ∧ B ∧ B') := by
  rcases h with ⟨a, b⟩ | ⟨a, b⟩ <;> rcases h' with ⟨a', b'⟩ | ⟨a', b'⟩
  · exact Or.inl ⟨a, b, b'⟩
  · exact absurd a a'
  · exact absurd a' a
  · exact Or.inr ⟨a, b, b'⟩
