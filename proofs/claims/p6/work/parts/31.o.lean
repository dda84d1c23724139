theorem when_rel {ff fk hol ho g1 : Nat → Int32} {n : Int} {i r r' : Int32} (h : ((0 ≤ i.toInt ∧ i.toInt < n) → r = ho i.toNatClampNeg) ∧ (¬ (0 ≤ i.toInt ∧ i.toInt < n) → r.toInt = -1)) (h' : HeldR ff fk n g1 365 ∧ ((r'.toInt = -1 ∧ (i.toInt < 0 ∨ Al (fun q_ => ¬ g1 q_ = i) 365)) ∨ (0 ≤ i.toInt ∧ 0 ≤ r'.toInt ∧ r'.toInt < 365 ∧ g1 r'.toNatClampNeg = i))) (hfe : 0 < n → HeldR ff fk n hol 365 ∧ HoP ho hol n 365) (hn : n ≤ 40) : r = r' := by
  obtain ⟨hg, hp⟩ := h'
  by_cases c : 0 ≤ i.toInt ∧ i.toInt < n
  · have ci := t_cl c.1
    obtain ⟨h1, h2⟩ := hfe (by omega)
    have er := h.1 c
    have ni := nI_ix c.1
    have eq := h1.uniq hg
    have hi := h2 i.toNatClampNeg (by omega)
    dsimp only at hi
    rw [ni, ← er] at hi
    rcases hi with ⟨a1, a2⟩ | ⟨a1, a2, a3⟩ <;> rcases hp with ⟨b1, b2⟩ | ⟨b1, b2, b3, b4⟩
    · exact i32_ext (by omega)
    · have cr := t_cl b2
      exact absurd ((eq _ (by omega)).trans b4) (a2 _ (by omega))
    · have cr := t_cl a1
      rcases b2 with b2 | b2
      · omega
      · exact absurd ((eq _ (by omega)).symm.trans a3) (b2 r.toNatClampNeg (by omega))
    · have cr := t_cl a1
      have cr' := t_cl b2
      have e := h1.once (y := r.toNatClampNeg) (z := r'.toNatClampNeg) (i := i.toNatClampNeg) (by omega) (by omega) (by omega) hn (by rw [ni]; exact a3) (by rw [ni]; exact (eq _ (by omega)).trans b4)
      exact i32_ext (by omega)
  · have er := h.2 c
    rcases hp with ⟨b1, b2⟩ | ⟨b1, b2, b3, b4⟩
    · exact i32_ext (by omega)
    · have cr' := t_cl b2
      have y := (hg r'.toNatClampNeg (by omega)).rg
      rw [b4] at y
      omega

