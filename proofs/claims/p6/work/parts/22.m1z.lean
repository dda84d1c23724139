theorem sum6_zero {f : Nat → Int32} (h : InR f 6 0 1) : sum6 f = 0 := by
  have hz : ∀ j : Nat, (j : Int) < 6 → f j = 0 := fun j hj => by
    have := h j hj
    exact Int32.toInt_inj.mp (by rw [show (0 : Int32).toInt = 0 by decide]; omega)
  unfold sum6
  rw [hz 0 (by omega), hz 1 (by omega), hz 2 (by omega), hz 3 (by omega), hz 4 (by omega), hz 5 (by omega)]
  decide

