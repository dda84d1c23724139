def rem365 (d : Int32) : Int32 := d - d / 365 * 365
def sunN (y : Int32) : Int32 := if y < 355 then y + 365 - 355 else y - 355
def sunM (y : Int32) : Int32 := if 182 < sunN y then 960 - 480 * (sunN y - 182) / 183 else 480 + 480 * sunN y / 182
def sunR (y : Int32) : Int32 := 720 - sunM y / 2
def sunS (y : Int32) : Int32 := sunR y + sunM y
def sunB (y k : Int32) : Int32 := if k = 0 then sunR y / 3 else if k = 1 then sunR y - 60 else if k = 2 then sunR y else if k = 3 then sunR y + sunM y * 3 / 12 else if k = 4 then sunR y + sunM y * 6 / 12 else if k = 5 then sunR y + sunM y * 9 / 12 else if k = 6 then sunR y + sunM y * 11 / 12 else (sunR y + sunM y) + (1440 - (sunR y + sunM y)) / 3
def sunP (y k : Int32) : Int32 := if k = 0 then sunR y / 3 else if k = 1 then sunR y - 60 else if k = 7 then sunS y + (1440 - sunS y) / 3 else sunR y + sunM y * (if 6 ≤ k then 11 else 3 * (k - 2)) / 12
theorem sunN_eq (y : Int32) : sunN y = if y < 355 then y + 10 else y - 355 := by
  unfold sunN
  rw [show y + 365 - 355 = y + 10 by rw [Int32.sub_eq_add_neg, Int32.add_assoc]; rfl]
theorem sunM_eq (y : Int32) : sunM y = if 182 < (if y < 355 then y + 10 else y - 355) then 960 - 480 * ((if y < 355 then y + 10 else y - 355) - 182) / 183 else 480 + 480 * (if y < 355 then y + 10 else y - 355) / 182 := by
  unfold sunM
  rw [sunN_eq]
theorem sunP_eq (y k : Int32) (h0 : 0 ≤ k.toInt) (h7 : k.toInt ≤ 7) : sunP y k = sunB y k := by
  have hk : k = 0 ∨ k = 1 ∨ k = 2 ∨ k = 3 ∨ k = 4 ∨ k = 5 ∨ k = 6 ∨ k = 7 := by
    have h : k.toInt = 0 ∨ k.toInt = 1 ∨ k.toInt = 2 ∨ k.toInt = 3 ∨ k.toInt = 4 ∨ k.toInt = 5 ∨ k.toInt = 6 ∨ k.toInt = 7 := by omega
    rcases h with h | h | h | h | h | h | h | h
    · exact Or.inl (Int32.toInt_inj.mp h)
    · exact Or.inr (Or.inl (Int32.toInt_inj.mp h))
    · exact Or.inr (Or.inr (Or.inl (Int32.toInt_inj.mp h)))
    · exact Or.inr (Or.inr (Or.inr (Or.inl (Int32.toInt_inj.mp h))))
    · exact Or.inr (Or.inr (Or.inr (Or.inr (Or.inl (Int32.toInt_inj.mp h)))))
    · exact Or.inr (Or.inr (Or.inr (Or.inr (Or.inr (Or.inl (Int32.toInt_inj.mp h))))))
    · exact Or.inr (Or.inr (Or.inr (Or.inr (Or.inr (Or.inr (Or.inl (Int32.toInt_inj.mp h)))))))
    · exact Or.inr (Or.inr (Or.inr (Or.inr (Or.inr (Or.inr (Or.inr (Int32.toInt_inj.mp h)))))))
  rcases hk with rfl | rfl | rfl | rfl | rfl | rfl | rfl | rfl
  · unfold sunP sunB
    rw [if_pos rfl, if_pos rfl]
  · unfold sunP sunB
    rw [if_neg (by decide), if_pos rfl, if_neg (by decide), if_pos rfl]
  · show sunR y + sunM y * (3 * (2 - 2)) / 12 = sunR y
    rw [show (3 : Int32) * (2 - 2) = 0 by decide, Int32.mul_zero, show (0 : Int32) / 12 = 0 by decide, Int32.add_zero]
  · rfl
  · rfl
  · rfl
  · rfl
  · rfl
def lightF (d w : Int32) : Int32 := if 0 ≤ d.toInt ∧ d.toInt ≤ 364 then (if w = 0 then sunM d else if w = 1 then sunR d else if w = 2 then sunS d else -1) else -1
def sum6 (f : Nat → Int32) : Int32 := 0 + f 0 + f 1 + f 2 + f 3 + f 4 + f 5
theorem sum6_z : sum6 (fun _ => 0) = 0 := by decide
theorem sum6_u (x k : Int32) (h0 : 0 ≤ k.toInt) (h5 : k.toInt ≤ 5) : sum6 (upd (fun _ => 0) k.toNatClampNeg x) = x := by
  have hk : k.toNatClampNeg = 0 ∨ k.toNatClampNeg = 1 ∨ k.toNatClampNeg = 2 ∨ k.toNatClampNeg = 3 ∨ k.toNatClampNeg = 4 ∨ k.toNatClampNeg = 5 := by
    have := t_cl h0
    omega
  rcases hk with h | h | h | h | h | h <;> rw [h] <;> simp [sum6, upd]
theorem sunP0_rg (k : Int32) (h0 : 0 ≤ k.toInt) (h7 : k.toInt ≤ 7) : 0 ≤ (sunP (rem365 0) k).toInt ∧ (sunP (rem365 0) k).toInt ≤ 1440 := by
  have h : k.toInt = 0 ∨ k.toInt = 1 ∨ k.toInt = 2 ∨ k.toInt = 3 ∨ k.toInt = 4 ∨ k.toInt = 5 ∨ k.toInt = 6 ∨ k.toInt = 7 := by omega
  rcases h with h | h | h | h | h | h | h | h
  · rw [show k = 0 from Int32.toInt_inj.mp h]; decide
  · rw [show k = 1 from Int32.toInt_inj.mp h]; decide
  · rw [show k = 2 from Int32.toInt_inj.mp h]; decide
  · rw [show k = 3 from Int32.toInt_inj.mp h]; decide
  · rw [show k = 4 from Int32.toInt_inj.mp h]; decide
  · rw [show k = 5 from Int32.toInt_inj.mp h]; decide
  · rw [show k = 6 from Int32.toInt_inj.mp h]; decide
  · rw [show k = 7 from Int32.toInt_inj.mp h]; decide
