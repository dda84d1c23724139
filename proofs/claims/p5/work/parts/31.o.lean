theorem held_rel {ff fk hol ho g1 : Nat → Int32} {n : Int} {d r r' : Int32} (h : ((0 < n ∧ (0 ≤ d.toInt ∧ d.toInt ≤ 364)) → r = hol d.toNatClampNeg) ∧ (¬ (0 < n ∧ (0 ≤ d.toInt ∧ d.toInt ≤ 364)) → r.toInt = -1)) (h' : ((0 ≤ d.toInt ∧ d.toInt ≤ 364) ∧ HeldR ff fk n g1 365 ∧ r' = g1 d.toNatClampNeg) ∨ (¬ (0 ≤ d.toInt ∧ d.toInt ≤ 364) ∧ r'.toInt = -1)) (hfe : 0 < n → HeldR ff fk n hol 365 ∧ HoP ho hol n 365) (hn : 0 ≤ n) : r = r' := by
  rcases h' with ⟨a, b, c⟩ | ⟨a, b⟩
  · have cd := t_cl (x := d) (by omega)
    by_cases z : 0 < n
    · rw [h.1 ⟨z, a⟩, c]
      exact (hfe z).1.uniq b _ (by omega)
    · have w := h.2 (fun q => z q.1)
      have y := (b d.toNatClampNeg (by omega)).rg
      rw [← c] at y
      exact i32_ext (by omega)
  · exact i32_ext ((h.2 (fun q => a q.2)).trans b.symm)
