def rem365 (d : Int32) : Int32 := d - d / 365 * 365
def sunN (y : Int32) : Int32 := if y < 355 then y + 365 - 355 else y - 355
def sunM (y : Int32) : Int32 := if 182 < sunN y then 960 - 480 * (sunN y - 182) / 183 else 480 + 480 * sunN y / 182
def sunR (y : Int32) : Int32 := 720 - sunM y / 2
def sunS (y : Int32) : Int32 := sunR y + sunM y
def sunB (y k : Int32) : Int32 := if k = 0 then sunR y / 3 else if k = 1 then sunR y - 60 else if k = 2 then sunR y else if k = 3 then sunR y + sunM y * 3 / 12 else if k = 4 then sunR y + sunM y * 6 / 12 else if k = 5 then sunR y + sunM y * 9 / 12 else if k = 6 then sunR y + sunM y * 11 / 12 else (sunR y + sunM y) + (1440 - (sunR y + sunM y)) / 3
def sunP (y k : Int32) : Int32 := if k = 0 then sunR y / 3 else if k = 1 then sunR y - 60 else if k = 7 then sunS y + (1440 - sunS y) / 3 else sunR y + sunM y * (if 6 ≤ k then 11 else 3 * (k - 2)) / 12
theorem sunN_eq (y : Int32) : sunN y = if y < 355 then y + 10 else y - 355 := by
  unfold sunN
  rw [show y + 365 - 355 = y + 10 by rw [Int32.sub_eq_add_neg, Int32.add_assoc]; rfl]
theorem sunM_eq (y : Int32) : sunM y = if 182 < (if y < 355 then y + 10 else y - 355) then 960 - 480 * ((if y < 355 then y + 10 else y - 355) - 182) / 183 else 480 + 480 * (if y < 355 then y + 10 else y - 355) / 182 := by
  unfold sunM
  rw [sunN_eq]
def lightF (d w : Int32) : Int32 := if 0 ≤ d.toInt ∧ d.toInt ≤ 364 then (if w = 0 then sunM d else if w = 1 then sunR d else if w = 2 then sunS d else -1) else -1
def sum6 (f : Nat → Int32) : Int32 := 0 + f 0 + f 1 + f 2 + f 3 + f 4 + f 5
theorem sum6_z : sum6 (fun _ => 0) = 0 := by decide
