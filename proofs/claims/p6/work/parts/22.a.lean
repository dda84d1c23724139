theorem sum6_add (f : Nat → Int32) (k x : Int32) (h0 : 0 ≤ k.toInt) (h5 : k.toInt ≤ 5) : sum6 (upd f k.toNatClampNeg (f k.toNatClampNeg + x)) = sum6 f + x := by
  have hk : k.toNatClampNeg = 0 ∨ k.toNatClampNeg = 1 ∨ k.toNatClampNeg = 2 ∨ k.toNatClampNeg = 3 ∨ k.toNatClampNeg = 4 ∨ k.toNatClampNeg = 5 := by
    have := t_cl h0
    omega
  rcases hk with h | h | h | h | h | h <;> rw [h] <;> simp [sum6, upd] <;> ac_rfl

