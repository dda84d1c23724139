def GiftAns (n : Int) (fo fs fp : Nat → Int32) (i w r : Int32) : Prop := (¬ (0 ≤ i.toInt ∧ i.toInt < n) → r.toInt = -1) ∧ ((0 ≤ i.toInt ∧ i.toInt < n) → (w.toInt = 0 → r = fo i.toNatClampNeg) ∧ (w.toInt = 1 → r = fs i.toNatClampNeg) ∧ (w.toInt = 2 → r = fp i.toNatClampNeg) ∧ (w.toInt ≠ 0 ∧ w.toInt ≠ 1 ∧ w.toInt ≠ 2 → r.toInt = -1))
theorem GiftAns.uniq {n : Int} {fo fs fp : Nat → Int32} {i w r r' : Int32} (h : GiftAns n fo fs fp i w r) (h' : GiftAns n fo fs fp i w r') : r = r' := by
  by_cases c : 0 ≤ i.toInt ∧ i.toInt < n
  · obtain ⟨a0, a1, a2, a3⟩ := h.2 c
    obtain ⟨b0, b1, b2, b3⟩ := h'.2 c
    by_cases w0 : w.toInt = 0
    · exact (a0 w0).trans (b0 w0).symm
    · by_cases w1 : w.toInt = 1
      · exact (a1 w1).trans (b1 w1).symm
      · by_cases w2 : w.toInt = 2
        · exact (a2 w2).trans (b2 w2).symm
        · exact i32_ext ((a3 ⟨w0, w1, w2⟩).trans (b3 ⟨w0, w1, w2⟩).symm)
  · exact i32_ext ((h.1 c).trans (h'.1 c).symm)
def sumT (ft : Nat → Int32) (i : Int32) : Int32 := 0 + ft (4 * i.toNatClampNeg + (0 : Int32).toNatClampNeg) + ft (4 * i.toNatClampNeg + (1 : Int32).toNatClampNeg) + ft (4 * i.toNatClampNeg + (2 : Int32).toNatClampNeg) + ft (4 * i.toNatClampNeg + (3 : Int32).toNatClampNeg)
def TurnAns (n : Int) (ft : Nat → Int32) (i k r : Int32) : Prop := ((0 ≤ i.toInt ∧ i.toInt < n ∧ 0 ≤ k.toInt ∧ k.toInt ≤ 3) → r = ft (4 * i.toNatClampNeg + k.toNatClampNeg)) ∧ ((0 ≤ i.toInt ∧ i.toInt < n ∧ k.toInt = 4) → r = sumT ft i) ∧ (¬ (0 ≤ i.toInt ∧ i.toInt < n ∧ 0 ≤ k.toInt ∧ k.toInt ≤ 4) → r.toInt = -1)
theorem TurnAns.uniq {n : Int} {ft : Nat → Int32} {i k r r' : Int32} (h : TurnAns n ft i k r) (h' : TurnAns n ft i k r') : r = r' := by
  by_cases c : 0 ≤ i.toInt ∧ i.toInt < n ∧ 0 ≤ k.toInt ∧ k.toInt ≤ 3
  · exact (h.1 c).trans (h'.1 c).symm
  · by_cases c2 : 0 ≤ i.toInt ∧ i.toInt < n ∧ k.toInt = 4
    · exact (h.2.1 c2).trans (h'.2.1 c2).symm
    · exact i32_ext ((h.2.2 (by omega)).trans (h'.2.2 (by omega)).symm)

