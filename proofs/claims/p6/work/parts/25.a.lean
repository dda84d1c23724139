theorem InR.cpy {f : Nat → Int32} {L lo hi b : Int} {n : Nat} (h : InR f L lo hi) (hn : (n : Int) ≤ L) (h0 : lo ≤ 0) (h1 : 0 < hi) : InR (va_cpy f (fun _ => 0) (0 : Int32).toNatClampNeg (0 : Int32).toNatClampNeg n) b lo hi := by
  intro j hj
  have hk : (0 : Int32).toNatClampNeg = 0 := by decide
  have hz : (0 : Int32).toInt = 0 := by decide
  unfold va_cpy
  rw [hk]
  dsimp only
  split
  · rename_i hc
    rw [show 0 + (j - 0) = j by omega]
    exact h j (by omega)
  · rw [hz]
    exact ⟨h0, h1⟩

