theorem stLen_rg : ∀ i : Nat, i < 7 → 1 ≤ stLen.getD i 0 ∧ stLen.getD i 0 ≤ 7 := by decide
theorem shr0 (x : Int32) : x >>> ((0 : Int32) &&& 31) = x := by
  apply Int32.toInt_inj.mp
  rw [pk_shr x ((0 : Int32) &&& 31) 0 (by decide)]
  exact Int.shiftRight_zero _

