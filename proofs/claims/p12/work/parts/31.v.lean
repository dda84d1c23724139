theorem t64 (x : Int64) (h : 0 ≤ x.toInt) : (x.toBitVec.toNat : Int) = x.toInt := by
  have e : x.toInt = x.toBitVec.toInt := rfl
  have l := x.toBitVec.isLt
  rw [e, BitVec.toInt_eq_toNat_cond] at h ⊢
  split at h <;> split <;> omega
theorem t64' (x : Int64) (h : x.toBitVec.toNat < 9223372036854775808) : x.toInt = (x.toBitVec.toNat : Int) := by
  have e : x.toInt = x.toBitVec.toInt := rfl
  rw [e, BitVec.toInt_eq_toNat_cond]
  split <;> omega
theorem sh8 {w : Int64} {c : Int32} (h0 : 0 ≤ w.toInt) (h1 : w.toInt < 281474976710656) (c0 : 0 ≤ c.toInt) (c1 : c.toInt < 256) : ((w <<< ((8 : Int32).toInt64 &&& 63)) ||| c.toInt64).toInt = w.toInt * 256 + c.toInt := by
  have e8 : ((8 : Int32).toInt64 &&& 63) = 8 := by decide
  rw [e8]
  have a := t64 w h0
  have ec : c.toInt64.toInt = c.toInt := Int32.toInt_toInt64 c
  have b := t64 c.toInt64 (by omega)
  have k : ((w <<< (8 : Int64)) ||| c.toInt64).toBitVec.toNat = w.toBitVec.toNat * 256 + c.toInt64.toBitVec.toNat := by
    have s : (w <<< (8 : Int64)).toBitVec = w.toBitVec <<< (8 : Nat) := rfl
    rw [Int64.toBitVec_or, s, BitVec.toNat_or, BitVec.toNat_shiftLeft, Nat.shiftLeft_eq, Nat.mod_eq_of_lt (by omega)]
    have z := Nat.shiftLeft_add_eq_or_of_lt (i := 8) (b := c.toInt64.toBitVec.toNat) (by omega) w.toBitVec.toNat
    rw [Nat.shiftLeft_eq] at z
    omega
  rw [t64' _ (by omega), k]
  omega
/-- a word's letters as one number -/
def horF (tx : Nat → Int32) (q : Nat) : Nat → Int
  | 0 => 0
  | m + 1 => horF tx q m * 256 + (tx (q + m)).toInt
theorem horF.rg {tx : Nat → Int32} {q : Nat} : ∀ m : Nat, m ≤ 7 → (∀ k, q ≤ k → k < q + m → letP (tx k)) → 0 ≤ horF tx q m ∧ horF tx q m < (256 : Int) ^ m := by
  intro m
  induction m with
  | zero => intro _ _; exact ⟨Int.le_refl _, by (show (0 : Int) < 256 ^ 0); decide⟩
  | succ m ih =>
    intro hm h
    have i := ih (by omega) (fun k a b => h k a (by omega))
    have l := h (q + m) (by omega) (by omega)
    unfold letP at l
    show 0 ≤ horF tx q m * 256 + (tx (q + m)).toInt ∧ horF tx q m * 256 + (tx (q + m)).toInt < (256 : Int) ^ (m + 1)
    rw [Int.pow_succ]
    omega
def LV (tx : Nat → Int32) (q e : Nat) (x : Int) : Prop := (e ≤ q + 7 ∧ x = horF tx q (e - q)) ∨ (q + 7 < e ∧ x = 0)
def wdK (i : Nat) : Int := [1717662580, 33607008496411001, 1718775661, 29807, 1717921124, 1918987883, 444351214452].getD i 0
theorem hor_le {tx : Nat → Int32} {q e : Nat} {x : Int} (h : LV tx q e x) (hl : ∀ k, q ≤ k → k < e → letP (tx k)) (hq : q ≤ e) : (x = 0 ∧ q + 7 < e) ∨ (∃ m : Nat, m ≤ 7 ∧ e = q + m ∧ x = horF tx q m) := by
  rcases h with ⟨a, b⟩ | ⟨a, b⟩
  · exact Or.inr ⟨e - q, by omega, by omega, b⟩
  · exact Or.inl ⟨b, a⟩
-- the number tells the word
set_option maxHeartbeats 4000000 in
theorem lvs_0 {tx : Nat → Int32} {q e : Nat} {x : Int} (h : LV tx q e x) (hl : ∀ k, q ≤ k → k < e → letP (tx k)) (hq : q ≤ e) : x = 1717662580 ↔ (e = q + 4 ∧ (tx (q + 0)).toInt = 102 ∧ (tx (q + 1)).toInt = 97 ∧ (tx (q + 2)).toInt = 115 ∧ (tx (q + 3)).toInt = 116) := by
  rcases hor_le h hl hq with ⟨a, b⟩ | ⟨m, hm, he, hx⟩
  · constructor <;> intro z <;> omega
  · have d : m = 0 ∨ m = 1 ∨ m = 2 ∨ m = 3 ∨ m = 4 ∨ m = 5 ∨ m = 6 ∨ m = 7 := by omega
    have lt : ∀ k : Nat, k < m → 97 ≤ (tx (q + k)).toInt ∧ (tx (q + k)).toInt ≤ 122 := fun k hk => hl (q + k) (by omega) (by omega)
    rcases d with rfl | rfl | rfl | rfl | rfl | rfl | rfl | rfl
    · have ee : horF tx q 0 = 0 := rfl
      constructor <;> intro z <;> omega
    · have ee : horF tx q 1 = 0 * 256 + (tx (q + 0)).toInt := rfl
      have c0 := lt 0 (by omega); constructor <;> intro z <;> omega
    · have ee : horF tx q 2 = (0 * 256 + (tx (q + 0)).toInt) * 256 + (tx (q + 1)).toInt := rfl
      have c0 := lt 0 (by omega); have c1 := lt 1 (by omega); constructor <;> intro z <;> omega
    · have ee : horF tx q 3 = ((0 * 256 + (tx (q + 0)).toInt) * 256 + (tx (q + 1)).toInt) * 256 + (tx (q + 2)).toInt := rfl
      have c0 := lt 0 (by omega); have c1 := lt 1 (by omega); have c2 := lt 2 (by omega); constructor <;> intro z <;> omega
    · have ee : horF tx q 4 = (((0 * 256 + (tx (q + 0)).toInt) * 256 + (tx (q + 1)).toInt) * 256 + (tx (q + 2)).toInt) * 256 + (tx (q + 3)).toInt := rfl
      have c0 := lt 0 (by omega); have c1 := lt 1 (by omega); have c2 := lt 2 (by omega); have c3 := lt 3 (by omega); constructor <;> intro z <;> omega
    · have ee : horF tx q 5 = ((((0 * 256 + (tx (q + 0)).toInt) * 256 + (tx (q + 1)).toInt) * 256 + (tx (q + 2)).toInt) * 256 + (tx (q + 3)).toInt) * 256 + (tx (q + 4)).toInt := rfl
      have c0 := lt 0 (by omega); have c1 := lt 1 (by omega); have c2 := lt 2 (by omega); have c3 := lt 3 (by omega); have c4 := lt 4 (by omega); constructor <;> intro z <;> omega
    · have ee : horF tx q 6 = (((((0 * 256 + (tx (q + 0)).toInt) * 256 + (tx (q + 1)).toInt) * 256 + (tx (q + 2)).toInt) * 256 + (tx (q + 3)).toInt) * 256 + (tx (q + 4)).toInt) * 256 + (tx (q + 5)).toInt := rfl
      have c0 := lt 0 (by omega); have c1 := lt 1 (by omega); have c2 := lt 2 (by omega); have c3 := lt 3 (by omega); have c4 := lt 4 (by omega); have c5 := lt 5 (by omega); constructor <;> intro z <;> omega
    · have ee : horF tx q 7 = ((((((0 * 256 + (tx (q + 0)).toInt) * 256 + (tx (q + 1)).toInt) * 256 + (tx (q + 2)).toInt) * 256 + (tx (q + 3)).toInt) * 256 + (tx (q + 4)).toInt) * 256 + (tx (q + 5)).toInt) * 256 + (tx (q + 6)).toInt := rfl
      have c0 := lt 0 (by omega); have c1 := lt 1 (by omega); have c2 := lt 2 (by omega); have c3 := lt 3 (by omega); have c4 := lt 4 (by omega); have c5 := lt 5 (by omega); have c6 := lt 6 (by omega); constructor <;> intro z <;> omega
set_option maxHeartbeats 4000000 in
theorem lvs_1 {tx : Nat → Int32} {q e : Nat} {x : Int} (h : LV tx q e x) (hl : ∀ k, q ≤ k → k < e → letP (tx k)) (hq : q ≤ e) : x = 33607008496411001 ↔ (e = q + 7 ∧ (tx (q + 0)).toInt = 119 ∧ (tx (q + 1)).toInt = 101 ∧ (tx (q + 2)).toInt = 101 ∧ (tx (q + 3)).toInt = 107 ∧ (tx (q + 4)).toInt = 100 ∧ (tx (q + 5)).toInt = 97 ∧ (tx (q + 6)).toInt = 121) := by
  rcases hor_le h hl hq with ⟨a, b⟩ | ⟨m, hm, he, hx⟩
  · constructor <;> intro z <;> omega
  · have d : m = 0 ∨ m = 1 ∨ m = 2 ∨ m = 3 ∨ m = 4 ∨ m = 5 ∨ m = 6 ∨ m = 7 := by omega
    have lt : ∀ k : Nat, k < m → 97 ≤ (tx (q + k)).toInt ∧ (tx (q + k)).toInt ≤ 122 := fun k hk => hl (q + k) (by omega) (by omega)
    rcases d with rfl | rfl | rfl | rfl | rfl | rfl | rfl | rfl
    · have ee : horF tx q 0 = 0 := rfl
      constructor <;> intro z <;> omega
    · have ee : horF tx q 1 = 0 * 256 + (tx (q + 0)).toInt := rfl
      have c0 := lt 0 (by omega); constructor <;> intro z <;> omega
    · have ee : horF tx q 2 = (0 * 256 + (tx (q + 0)).toInt) * 256 + (tx (q + 1)).toInt := rfl
      have c0 := lt 0 (by omega); have c1 := lt 1 (by omega); constructor <;> intro z <;> omega
    · have ee : horF tx q 3 = ((0 * 256 + (tx (q + 0)).toInt) * 256 + (tx (q + 1)).toInt) * 256 + (tx (q + 2)).toInt := rfl
      have c0 := lt 0 (by omega); have c1 := lt 1 (by omega); have c2 := lt 2 (by omega); constructor <;> intro z <;> omega
    · have ee : horF tx q 4 = (((0 * 256 + (tx (q + 0)).toInt) * 256 + (tx (q + 1)).toInt) * 256 + (tx (q + 2)).toInt) * 256 + (tx (q + 3)).toInt := rfl
      have c0 := lt 0 (by omega); have c1 := lt 1 (by omega); have c2 := lt 2 (by omega); have c3 := lt 3 (by omega); constructor <;> intro z <;> omega
    · have ee : horF tx q 5 = ((((0 * 256 + (tx (q + 0)).toInt) * 256 + (tx (q + 1)).toInt) * 256 + (tx (q + 2)).toInt) * 256 + (tx (q + 3)).toInt) * 256 + (tx (q + 4)).toInt := rfl
      have c0 := lt 0 (by omega); have c1 := lt 1 (by omega); have c2 := lt 2 (by omega); have c3 := lt 3 (by omega); have c4 := lt 4 (by omega); constructor <;> intro z <;> omega
    · have ee : horF tx q 6 = (((((0 * 256 + (tx (q + 0)).toInt) * 256 + (tx (q + 1)).toInt) * 256 + (tx (q + 2)).toInt) * 256 + (tx (q + 3)).toInt) * 256 + (tx (q + 4)).toInt) * 256 + (tx (q + 5)).toInt := rfl
      have c0 := lt 0 (by omega); have c1 := lt 1 (by omega); have c2 := lt 2 (by omega); have c3 := lt 3 (by omega); have c4 := lt 4 (by omega); have c5 := lt 5 (by omega); constructor <;> intro z <;> omega
    · have ee : horF tx q 7 = ((((((0 * 256 + (tx (q + 0)).toInt) * 256 + (tx (q + 1)).toInt) * 256 + (tx (q + 2)).toInt) * 256 + (tx (q + 3)).toInt) * 256 + (tx (q + 4)).toInt) * 256 + (tx (q + 5)).toInt) * 256 + (tx (q + 6)).toInt := rfl
      have c0 := lt 0 (by omega); have c1 := lt 1 (by omega); have c2 := lt 2 (by omega); have c3 := lt 3 (by omega); have c4 := lt 4 (by omega); have c5 := lt 5 (by omega); have c6 := lt 6 (by omega); constructor <;> intro z <;> omega
set_option maxHeartbeats 4000000 in
theorem lvs_2 {tx : Nat → Int32} {q e : Nat} {x : Int} (h : LV tx q e x) (hl : ∀ k, q ≤ k → k < e → letP (tx k)) (hq : q ≤ e) : x = 1718775661 ↔ (e = q + 4 ∧ (tx (q + 0)).toInt = 102 ∧ (tx (q + 1)).toInt = 114 ∧ (tx (q + 2)).toInt = 111 ∧ (tx (q + 3)).toInt = 109) := by
  rcases hor_le h hl hq with ⟨a, b⟩ | ⟨m, hm, he, hx⟩
  · constructor <;> intro z <;> omega
  · have d : m = 0 ∨ m = 1 ∨ m = 2 ∨ m = 3 ∨ m = 4 ∨ m = 5 ∨ m = 6 ∨ m = 7 := by omega
    have lt : ∀ k : Nat, k < m → 97 ≤ (tx (q + k)).toInt ∧ (tx (q + k)).toInt ≤ 122 := fun k hk => hl (q + k) (by omega) (by omega)
    rcases d with rfl | rfl | rfl | rfl | rfl | rfl | rfl | rfl
    · have ee : horF tx q 0 = 0 := rfl
      constructor <;> intro z <;> omega
    · have ee : horF tx q 1 = 0 * 256 + (tx (q + 0)).toInt := rfl
      have c0 := lt 0 (by omega); constructor <;> intro z <;> omega
    · have ee : horF tx q 2 = (0 * 256 + (tx (q + 0)).toInt) * 256 + (tx (q + 1)).toInt := rfl
      have c0 := lt 0 (by omega); have c1 := lt 1 (by omega); constructor <;> intro z <;> omega
    · have ee : horF tx q 3 = ((0 * 256 + (tx (q + 0)).toInt) * 256 + (tx (q + 1)).toInt) * 256 + (tx (q + 2)).toInt := rfl
      have c0 := lt 0 (by omega); have c1 := lt 1 (by omega); have c2 := lt 2 (by omega); constructor <;> intro z <;> omega
    · have ee : horF tx q 4 = (((0 * 256 + (tx (q + 0)).toInt) * 256 + (tx (q + 1)).toInt) * 256 + (tx (q + 2)).toInt) * 256 + (tx (q + 3)).toInt := rfl
      have c0 := lt 0 (by omega); have c1 := lt 1 (by omega); have c2 := lt 2 (by omega); have c3 := lt 3 (by omega); constructor <;> intro z <;> omega
    · have ee : horF tx q 5 = ((((0 * 256 + (tx (q + 0)).toInt) * 256 + (tx (q + 1)).toInt) * 256 + (tx (q + 2)).toInt) * 256 + (tx (q + 3)).toInt) * 256 + (tx (q + 4)).toInt := rfl
      have c0 := lt 0 (by omega); have c1 := lt 1 (by omega); have c2 := lt 2 (by omega); have c3 := lt 3 (by omega); have c4 := lt 4 (by omega); constructor <;> intro z <;> omega
    · have ee : horF tx q 6 = (((((0 * 256 + (tx (q + 0)).toInt) * 256 + (tx (q + 1)).toInt) * 256 + (tx (q + 2)).toInt) * 256 + (tx (q + 3)).toInt) * 256 + (tx (q + 4)).toInt) * 256 + (tx (q + 5)).toInt := rfl
      have c0 := lt 0 (by omega); have c1 := lt 1 (by omega); have c2 := lt 2 (by omega); have c3 := lt 3 (by omega); have c4 := lt 4 (by omega); have c5 := lt 5 (by omega); constructor <;> intro z <;> omega
    · have ee : horF tx q 7 = ((((((0 * 256 + (tx (q + 0)).toInt) * 256 + (tx (q + 1)).toInt) * 256 + (tx (q + 2)).toInt) * 256 + (tx (q + 3)).toInt) * 256 + (tx (q + 4)).toInt) * 256 + (tx (q + 5)).toInt) * 256 + (tx (q + 6)).toInt := rfl
      have c0 := lt 0 (by omega); have c1 := lt 1 (by omega); have c2 := lt 2 (by omega); have c3 := lt 3 (by omega); have c4 := lt 4 (by omega); have c5 := lt 5 (by omega); have c6 := lt 6 (by omega); constructor <;> intro z <;> omega
set_option maxHeartbeats 4000000 in
theorem lvs_3 {tx : Nat → Int32} {q e : Nat} {x : Int} (h : LV tx q e x) (hl : ∀ k, q ≤ k → k < e → letP (tx k)) (hq : q ≤ e) : x = 29807 ↔ (e = q + 2 ∧ (tx (q + 0)).toInt = 116 ∧ (tx (q + 1)).toInt = 111) := by
  rcases hor_le h hl hq with ⟨a, b⟩ | ⟨m, hm, he, hx⟩
  · constructor <;> intro z <;> omega
  · have d : m = 0 ∨ m = 1 ∨ m = 2 ∨ m = 3 ∨ m = 4 ∨ m = 5 ∨ m = 6 ∨ m = 7 := by omega
    have lt : ∀ k : Nat, k < m → 97 ≤ (tx (q + k)).toInt ∧ (tx (q + k)).toInt ≤ 122 := fun k hk => hl (q + k) (by omega) (by omega)
    rcases d with rfl | rfl | rfl | rfl | rfl | rfl | rfl | rfl
    · have ee : horF tx q 0 = 0 := rfl
      constructor <;> intro z <;> omega
    · have ee : horF tx q 1 = 0 * 256 + (tx (q + 0)).toInt := rfl
      have c0 := lt 0 (by omega); constructor <;> intro z <;> omega
    · have ee : horF tx q 2 = (0 * 256 + (tx (q + 0)).toInt) * 256 + (tx (q + 1)).toInt := rfl
      have c0 := lt 0 (by omega); have c1 := lt 1 (by omega); constructor <;> intro z <;> omega
    · have ee : horF tx q 3 = ((0 * 256 + (tx (q + 0)).toInt) * 256 + (tx (q + 1)).toInt) * 256 + (tx (q + 2)).toInt := rfl
      have c0 := lt 0 (by omega); have c1 := lt 1 (by omega); have c2 := lt 2 (by omega); constructor <;> intro z <;> omega
    · have ee : horF tx q 4 = (((0 * 256 + (tx (q + 0)).toInt) * 256 + (tx (q + 1)).toInt) * 256 + (tx (q + 2)).toInt) * 256 + (tx (q + 3)).toInt := rfl
      have c0 := lt 0 (by omega); have c1 := lt 1 (by omega); have c2 := lt 2 (by omega); have c3 := lt 3 (by omega); constructor <;> intro z <;> omega
    · have ee : horF tx q 5 = ((((0 * 256 + (tx (q + 0)).toInt) * 256 + (tx (q + 1)).toInt) * 256 + (tx (q + 2)).toInt) * 256 + (tx (q + 3)).toInt) * 256 + (tx (q + 4)).toInt := rfl
      have c0 := lt 0 (by omega); have c1 := lt 1 (by omega); have c2 := lt 2 (by omega); have c3 := lt 3 (by omega); have c4 := lt 4 (by omega); constructor <;> intro z <;> omega
    · have ee : horF tx q 6 = (((((0 * 256 + (tx (q + 0)).toInt) * 256 + (tx (q + 1)).toInt) * 256 + (tx (q + 2)).toInt) * 256 + (tx (q + 3)).toInt) * 256 + (tx (q + 4)).toInt) * 256 + (tx (q + 5)).toInt := rfl
      have c0 := lt 0 (by omega); have c1 := lt 1 (by omega); have c2 := lt 2 (by omega); have c3 := lt 3 (by omega); have c4 := lt 4 (by omega); have c5 := lt 5 (by omega); constructor <;> intro z <;> omega
    · have ee : horF tx q 7 = ((((((0 * 256 + (tx (q + 0)).toInt) * 256 + (tx (q + 1)).toInt) * 256 + (tx (q + 2)).toInt) * 256 + (tx (q + 3)).toInt) * 256 + (tx (q + 4)).toInt) * 256 + (tx (q + 5)).toInt) * 256 + (tx (q + 6)).toInt := rfl
      have c0 := lt 0 (by omega); have c1 := lt 1 (by omega); have c2 := lt 2 (by omega); have c3 := lt 3 (by omega); have c4 := lt 4 (by omega); have c5 := lt 5 (by omega); have c6 := lt 6 (by omega); constructor <;> intro z <;> omega
set_option maxHeartbeats 4000000 in
theorem lvs_4 {tx : Nat → Int32} {q e : Nat} {x : Int} (h : LV tx q e x) (hl : ∀ k, q ≤ k → k < e → letP (tx k)) (hq : q ≤ e) : x = 1717921124 ↔ (e = q + 4 ∧ (tx (q + 0)).toInt = 102 ∧ (tx (q + 1)).toInt = 101 ∧ (tx (q + 2)).toInt = 101 ∧ (tx (q + 3)).toInt = 100) := by
  rcases hor_le h hl hq with ⟨a, b⟩ | ⟨m, hm, he, hx⟩
  · constructor <;> intro z <;> omega
  · have d : m = 0 ∨ m = 1 ∨ m = 2 ∨ m = 3 ∨ m = 4 ∨ m = 5 ∨ m = 6 ∨ m = 7 := by omega
    have lt : ∀ k : Nat, k < m → 97 ≤ (tx (q + k)).toInt ∧ (tx (q + k)).toInt ≤ 122 := fun k hk => hl (q + k) (by omega) (by omega)
    rcases d with rfl | rfl | rfl | rfl | rfl | rfl | rfl | rfl
    · have ee : horF tx q 0 = 0 := rfl
      constructor <;> intro z <;> omega
    · have ee : horF tx q 1 = 0 * 256 + (tx (q + 0)).toInt := rfl
      have c0 := lt 0 (by omega); constructor <;> intro z <;> omega
    · have ee : horF tx q 2 = (0 * 256 + (tx (q + 0)).toInt) * 256 + (tx (q + 1)).toInt := rfl
      have c0 := lt 0 (by omega); have c1 := lt 1 (by omega); constructor <;> intro z <;> omega
    · have ee : horF tx q 3 = ((0 * 256 + (tx (q + 0)).toInt) * 256 + (tx (q + 1)).toInt) * 256 + (tx (q + 2)).toInt := rfl
      have c0 := lt 0 (by omega); have c1 := lt 1 (by omega); have c2 := lt 2 (by omega); constructor <;> intro z <;> omega
    · have ee : horF tx q 4 = (((0 * 256 + (tx (q + 0)).toInt) * 256 + (tx (q + 1)).toInt) * 256 + (tx (q + 2)).toInt) * 256 + (tx (q + 3)).toInt := rfl
      have c0 := lt 0 (by omega); have c1 := lt 1 (by omega); have c2 := lt 2 (by omega); have c3 := lt 3 (by omega); constructor <;> intro z <;> omega
    · have ee : horF tx q 5 = ((((0 * 256 + (tx (q + 0)).toInt) * 256 + (tx (q + 1)).toInt) * 256 + (tx (q + 2)).toInt) * 256 + (tx (q + 3)).toInt) * 256 + (tx (q + 4)).toInt := rfl
      have c0 := lt 0 (by omega); have c1 := lt 1 (by omega); have c2 := lt 2 (by omega); have c3 := lt 3 (by omega); have c4 := lt 4 (by omega); constructor <;> intro z <;> omega
    · have ee : horF tx q 6 = (((((0 * 256 + (tx (q + 0)).toInt) * 256 + (tx (q + 1)).toInt) * 256 + (tx (q + 2)).toInt) * 256 + (tx (q + 3)).toInt) * 256 + (tx (q + 4)).toInt) * 256 + (tx (q + 5)).toInt := rfl
      have c0 := lt 0 (by omega); have c1 := lt 1 (by omega); have c2 := lt 2 (by omega); have c3 := lt 3 (by omega); have c4 := lt 4 (by omega); have c5 := lt 5 (by omega); constructor <;> intro z <;> omega
    · have ee : horF tx q 7 = ((((((0 * 256 + (tx (q + 0)).toInt) * 256 + (tx (q + 1)).toInt) * 256 + (tx (q + 2)).toInt) * 256 + (tx (q + 3)).toInt) * 256 + (tx (q + 4)).toInt) * 256 + (tx (q + 5)).toInt) * 256 + (tx (q + 6)).toInt := rfl
      have c0 := lt 0 (by omega); have c1 := lt 1 (by omega); have c2 := lt 2 (by omega); have c3 := lt 3 (by omega); have c4 := lt 4 (by omega); have c5 := lt 5 (by omega); have c6 := lt 6 (by omega); constructor <;> intro z <;> omega
set_option maxHeartbeats 4000000 in
theorem lvs_5 {tx : Nat → Int32} {q e : Nat} {x : Int} (h : LV tx q e x) (hl : ∀ k, q ≤ k → k < e → letP (tx k)) (hq : q ≤ e) : x = 1918987883 ↔ (e = q + 4 ∧ (tx (q + 0)).toInt = 114 ∧ (tx (q + 1)).toInt = 97 ∧ (tx (q + 2)).toInt = 110 ∧ (tx (q + 3)).toInt = 107) := by
  rcases hor_le h hl hq with ⟨a, b⟩ | ⟨m, hm, he, hx⟩
  · constructor <;> intro z <;> omega
  · have d : m = 0 ∨ m = 1 ∨ m = 2 ∨ m = 3 ∨ m = 4 ∨ m = 5 ∨ m = 6 ∨ m = 7 := by omega
    have lt : ∀ k : Nat, k < m → 97 ≤ (tx (q + k)).toInt ∧ (tx (q + k)).toInt ≤ 122 := fun k hk => hl (q + k) (by omega) (by omega)
    rcases d with rfl | rfl | rfl | rfl | rfl | rfl | rfl | rfl
    · have ee : horF tx q 0 = 0 := rfl
      constructor <;> intro z <;> omega
    · have ee : horF tx q 1 = 0 * 256 + (tx (q + 0)).toInt := rfl
      have c0 := lt 0 (by omega); constructor <;> intro z <;> omega
    · have ee : horF tx q 2 = (0 * 256 + (tx (q + 0)).toInt) * 256 + (tx (q + 1)).toInt := rfl
      have c0 := lt 0 (by omega); have c1 := lt 1 (by omega); constructor <;> intro z <;> omega
    · have ee : horF tx q 3 = ((0 * 256 + (tx (q + 0)).toInt) * 256 + (tx (q + 1)).toInt) * 256 + (tx (q + 2)).toInt := rfl
      have c0 := lt 0 (by omega); have c1 := lt 1 (by omega); have c2 := lt 2 (by omega); constructor <;> intro z <;> omega
    · have ee : horF tx q 4 = (((0 * 256 + (tx (q + 0)).toInt) * 256 + (tx (q + 1)).toInt) * 256 + (tx (q + 2)).toInt) * 256 + (tx (q + 3)).toInt := rfl
      have c0 := lt 0 (by omega); have c1 := lt 1 (by omega); have c2 := lt 2 (by omega); have c3 := lt 3 (by omega); constructor <;> intro z <;> omega
    · have ee : horF tx q 5 = ((((0 * 256 + (tx (q + 0)).toInt) * 256 + (tx (q + 1)).toInt) * 256 + (tx (q + 2)).toInt) * 256 + (tx (q + 3)).toInt) * 256 + (tx (q + 4)).toInt := rfl
      have c0 := lt 0 (by omega); have c1 := lt 1 (by omega); have c2 := lt 2 (by omega); have c3 := lt 3 (by omega); have c4 := lt 4 (by omega); constructor <;> intro z <;> omega
    · have ee : horF tx q 6 = (((((0 * 256 + (tx (q + 0)).toInt) * 256 + (tx (q + 1)).toInt) * 256 + (tx (q + 2)).toInt) * 256 + (tx (q + 3)).toInt) * 256 + (tx (q + 4)).toInt) * 256 + (tx (q + 5)).toInt := rfl
      have c0 := lt 0 (by omega); have c1 := lt 1 (by omega); have c2 := lt 2 (by omega); have c3 := lt 3 (by omega); have c4 := lt 4 (by omega); have c5 := lt 5 (by omega); constructor <;> intro z <;> omega
    · have ee : horF tx q 7 = ((((((0 * 256 + (tx (q + 0)).toInt) * 256 + (tx (q + 1)).toInt) * 256 + (tx (q + 2)).toInt) * 256 + (tx (q + 3)).toInt) * 256 + (tx (q + 4)).toInt) * 256 + (tx (q + 5)).toInt) * 256 + (tx (q + 6)).toInt := rfl
      have c0 := lt 0 (by omega); have c1 := lt 1 (by omega); have c2 := lt 2 (by omega); have c3 := lt 3 (by omega); have c4 := lt 4 (by omega); have c5 := lt 5 (by omega); have c6 := lt 6 (by omega); constructor <;> intro z <;> omega
set_option maxHeartbeats 4000000 in
theorem lvs_6 {tx : Nat → Int32} {q e : Nat} {x : Int} (h : LV tx q e x) (hl : ∀ k, q ≤ k → k < e → letP (tx k)) (hq : q ≤ e) : x = 444351214452 ↔ (e = q + 5 ∧ (tx (q + 0)).toInt = 103 ∧ (tx (q + 1)).toInt = 117 ∧ (tx (q + 2)).toInt = 101 ∧ (tx (q + 3)).toInt = 115 ∧ (tx (q + 4)).toInt = 116) := by
  rcases hor_le h hl hq with ⟨a, b⟩ | ⟨m, hm, he, hx⟩
  · constructor <;> intro z <;> omega
  · have d : m = 0 ∨ m = 1 ∨ m = 2 ∨ m = 3 ∨ m = 4 ∨ m = 5 ∨ m = 6 ∨ m = 7 := by omega
    have lt : ∀ k : Nat, k < m → 97 ≤ (tx (q + k)).toInt ∧ (tx (q + k)).toInt ≤ 122 := fun k hk => hl (q + k) (by omega) (by omega)
    rcases d with rfl | rfl | rfl | rfl | rfl | rfl | rfl | rfl
    · have ee : horF tx q 0 = 0 := rfl
      constructor <;> intro z <;> omega
    · have ee : horF tx q 1 = 0 * 256 + (tx (q + 0)).toInt := rfl
      have c0 := lt 0 (by omega); constructor <;> intro z <;> omega
    · have ee : horF tx q 2 = (0 * 256 + (tx (q + 0)).toInt) * 256 + (tx (q + 1)).toInt := rfl
      have c0 := lt 0 (by omega); have c1 := lt 1 (by omega); constructor <;> intro z <;> omega
    · have ee : horF tx q 3 = ((0 * 256 + (tx (q + 0)).toInt) * 256 + (tx (q + 1)).toInt) * 256 + (tx (q + 2)).toInt := rfl
      have c0 := lt 0 (by omega); have c1 := lt 1 (by omega); have c2 := lt 2 (by omega); constructor <;> intro z <;> omega
    · have ee : horF tx q 4 = (((0 * 256 + (tx (q + 0)).toInt) * 256 + (tx (q + 1)).toInt) * 256 + (tx (q + 2)).toInt) * 256 + (tx (q + 3)).toInt := rfl
      have c0 := lt 0 (by omega); have c1 := lt 1 (by omega); have c2 := lt 2 (by omega); have c3 := lt 3 (by omega); constructor <;> intro z <;> omega
    · have ee : horF tx q 5 = ((((0 * 256 + (tx (q + 0)).toInt) * 256 + (tx (q + 1)).toInt) * 256 + (tx (q + 2)).toInt) * 256 + (tx (q + 3)).toInt) * 256 + (tx (q + 4)).toInt := rfl
      have c0 := lt 0 (by omega); have c1 := lt 1 (by omega); have c2 := lt 2 (by omega); have c3 := lt 3 (by omega); have c4 := lt 4 (by omega); constructor <;> intro z <;> omega
    · have ee : horF tx q 6 = (((((0 * 256 + (tx (q + 0)).toInt) * 256 + (tx (q + 1)).toInt) * 256 + (tx (q + 2)).toInt) * 256 + (tx (q + 3)).toInt) * 256 + (tx (q + 4)).toInt) * 256 + (tx (q + 5)).toInt := rfl
      have c0 := lt 0 (by omega); have c1 := lt 1 (by omega); have c2 := lt 2 (by omega); have c3 := lt 3 (by omega); have c4 := lt 4 (by omega); have c5 := lt 5 (by omega); constructor <;> intro z <;> omega
    · have ee : horF tx q 7 = ((((((0 * 256 + (tx (q + 0)).toInt) * 256 + (tx (q + 1)).toInt) * 256 + (tx (q + 2)).toInt) * 256 + (tx (q + 3)).toInt) * 256 + (tx (q + 4)).toInt) * 256 + (tx (q + 5)).toInt) * 256 + (tx (q + 6)).toInt := rfl
      have c0 := lt 0 (by omega); have c1 := lt 1 (by omega); have c2 := lt 2 (by omega); have c3 := lt 3 (by omega); have c4 := lt 4 (by omega); have c5 := lt 5 (by omega); have c6 := lt 6 (by omega); constructor <;> intro z <;> omega
theorem lv_spell {tx : Nat → Int32} {q e i : Nat} {x : Int} (hi : i < 7) (h : LV tx q e x) (hl : ∀ k, q ≤ k → k < e → letP (tx k)) (hq : q ≤ e) : x = wdK i ↔ SpellP tx q e i := by
  have sp : SpellP tx q e i ↔ (e = q + stN i ∧ ∀ j, j < stN i → (tx (q + j)).toInt = (stB i j).toInt) := ⟨fun z => ⟨z.1, fun j hj => by rw [z.2 j hj]⟩, fun z => ⟨z.1, fun j hj => i32_ext (z.2 j hj)⟩⟩
  rw [sp]
  have di : i = 0 ∨ i = 1 ∨ i = 2 ∨ i = 3 ∨ i = 4 ∨ i = 5 ∨ i = 6 := by omega
  rcases di with rfl | rfl | rfl | rfl | rfl | rfl | rfl
  · have r := lvs_0 h hl hq
    have nn : stN 0 = 4 := rfl
    have b0 : (stB 0 0).toInt = 102 := by decide
    have b1 : (stB 0 1).toInt = 97 := by decide
    have b2 : (stB 0 2).toInt = 115 := by decide
    have b3 : (stB 0 3).toInt = 116 := by decide
    have kk : wdK 0 = 1717662580 := rfl
    rw [kk, r, nn]
    constructor
    · intro z
      refine ⟨z.1, fun j hj => ?_⟩
      have dj : j = 0 ∨ j = 1 ∨ j = 2 ∨ j = 3 := by omega
      rcases dj with rfl | rfl | rfl | rfl <;> omega
    · intro z
      have z0 := z.2 0 (by omega); have z1 := z.2 1 (by omega); have z2 := z.2 2 (by omega); have z3 := z.2 3 (by omega)
      omega
  · have r := lvs_1 h hl hq
    have nn : stN 1 = 7 := rfl
    have b0 : (stB 1 0).toInt = 119 := by decide
    have b1 : (stB 1 1).toInt = 101 := by decide
    have b2 : (stB 1 2).toInt = 101 := by decide
    have b3 : (stB 1 3).toInt = 107 := by decide
    have b4 : (stB 1 4).toInt = 100 := by decide
    have b5 : (stB 1 5).toInt = 97 := by decide
    have b6 : (stB 1 6).toInt = 121 := by decide
    have kk : wdK 1 = 33607008496411001 := rfl
    rw [kk, r, nn]
    constructor
    · intro z
      refine ⟨z.1, fun j hj => ?_⟩
      have dj : j = 0 ∨ j = 1 ∨ j = 2 ∨ j = 3 ∨ j = 4 ∨ j = 5 ∨ j = 6 := by omega
      rcases dj with rfl | rfl | rfl | rfl | rfl | rfl | rfl <;> omega
    · intro z
      have z0 := z.2 0 (by omega); have z1 := z.2 1 (by omega); have z2 := z.2 2 (by omega); have z3 := z.2 3 (by omega); have z4 := z.2 4 (by omega); have z5 := z.2 5 (by omega); have z6 := z.2 6 (by omega)
      omega
  · have r := lvs_2 h hl hq
    have nn : stN 2 = 4 := rfl
    have b0 : (stB 2 0).toInt = 102 := by decide
    have b1 : (stB 2 1).toInt = 114 := by decide
    have b2 : (stB 2 2).toInt = 111 := by decide
    have b3 : (stB 2 3).toInt = 109 := by decide
    have kk : wdK 2 = 1718775661 := rfl
    rw [kk, r, nn]
    constructor
    · intro z
      refine ⟨z.1, fun j hj => ?_⟩
      have dj : j = 0 ∨ j = 1 ∨ j = 2 ∨ j = 3 := by omega
      rcases dj with rfl | rfl | rfl | rfl <;> omega
    · intro z
      have z0 := z.2 0 (by omega); have z1 := z.2 1 (by omega); have z2 := z.2 2 (by omega); have z3 := z.2 3 (by omega)
      omega
  · have r := lvs_3 h hl hq
    have nn : stN 3 = 2 := rfl
    have b0 : (stB 3 0).toInt = 116 := by decide
    have b1 : (stB 3 1).toInt = 111 := by decide
    have kk : wdK 3 = 29807 := rfl
    rw [kk, r, nn]
    constructor
    · intro z
      refine ⟨z.1, fun j hj => ?_⟩
      have dj : j = 0 ∨ j = 1 := by omega
      rcases dj with rfl | rfl <;> omega
    · intro z
      have z0 := z.2 0 (by omega); have z1 := z.2 1 (by omega)
      omega
  · have r := lvs_4 h hl hq
    have nn : stN 4 = 4 := rfl
    have b0 : (stB 4 0).toInt = 102 := by decide
    have b1 : (stB 4 1).toInt = 101 := by decide
    have b2 : (stB 4 2).toInt = 101 := by decide
    have b3 : (stB 4 3).toInt = 100 := by decide
    have kk : wdK 4 = 1717921124 := rfl
    rw [kk, r, nn]
    constructor
    · intro z
      refine ⟨z.1, fun j hj => ?_⟩
      have dj : j = 0 ∨ j = 1 ∨ j = 2 ∨ j = 3 := by omega
      rcases dj with rfl | rfl | rfl | rfl <;> omega
    · intro z
      have z0 := z.2 0 (by omega); have z1 := z.2 1 (by omega); have z2 := z.2 2 (by omega); have z3 := z.2 3 (by omega)
      omega
  · have r := lvs_5 h hl hq
    have nn : stN 5 = 4 := rfl
    have b0 : (stB 5 0).toInt = 114 := by decide
    have b1 : (stB 5 1).toInt = 97 := by decide
    have b2 : (stB 5 2).toInt = 110 := by decide
    have b3 : (stB 5 3).toInt = 107 := by decide
    have kk : wdK 5 = 1918987883 := rfl
    rw [kk, r, nn]
    constructor
    · intro z
      refine ⟨z.1, fun j hj => ?_⟩
      have dj : j = 0 ∨ j = 1 ∨ j = 2 ∨ j = 3 := by omega
      rcases dj with rfl | rfl | rfl | rfl <;> omega
    · intro z
      have z0 := z.2 0 (by omega); have z1 := z.2 1 (by omega); have z2 := z.2 2 (by omega); have z3 := z.2 3 (by omega)
      omega
  · have r := lvs_6 h hl hq
    have nn : stN 6 = 5 := rfl
    have b0 : (stB 6 0).toInt = 103 := by decide
    have b1 : (stB 6 1).toInt = 117 := by decide
    have b2 : (stB 6 2).toInt = 101 := by decide
    have b3 : (stB 6 3).toInt = 115 := by decide
    have b4 : (stB 6 4).toInt = 116 := by decide
    have kk : wdK 6 = 444351214452 := rfl
    rw [kk, r, nn]
    constructor
    · intro z
      refine ⟨z.1, fun j hj => ?_⟩
      have dj : j = 0 ∨ j = 1 ∨ j = 2 ∨ j = 3 ∨ j = 4 := by omega
      rcases dj with rfl | rfl | rfl | rfl | rfl <;> omega
    · intro z
      have z0 := z.2 0 (by omega); have z1 := z.2 1 (by omega); have z2 := z.2 2 (by omega); have z3 := z.2 3 (by omega); have z4 := z.2 4 (by omega)
      omega
theorem horF.six {tx : Nat → Int32} {q m : Nat} (hm : m ≤ 6) (h : ∀ k, q ≤ k → k < q + m → letP (tx k)) : 0 ≤ horF tx q m ∧ horF tx q m < 281474976710656 := by
  have r := horF.rg m (by omega) h
  have p : (256 : Int) ^ m ≤ 281474976710656 := by
    have d : m = 0 ∨ m = 1 ∨ m = 2 ∨ m = 3 ∨ m = 4 ∨ m = 5 ∨ m = 6 := by omega
    rcases d with rfl | rfl | rfl | rfl | rfl | rfl | rfl <;> decide
  omega
/-- token i and the letters that stand there -/
theorem tk_word {tx : Nat → Int32} {n i q p e c : Nat} {k v : Int32} {x : Int} (hk : KindR tx n i k v p) (hq : PosR tx n i q) (hr : RunR letP tx n q e) (hv : LV tx q e x) (hc : c < 7) : (x = wdK c ↔ k.toInt = 4 + (c : Int)) ∧ (x = wdK c → AtR tx n (i + 1) e) := by
  have ep := PosR.uniq i _ _ hk.1 hq
  subst ep
  have hl : ∀ j, p ≤ j → j < e → letP (tx j) := hr.2.2.1
  have sp := lv_spell hc hv hl hr.1
  have wz : ∀ c, c < 7 → wdK c ≠ 0 := by decide
  rcases hk.2 with ⟨a, e', ht⟩ | ⟨a, b⟩
  · rcases ht with ⟨t1, t2, t3, t4⟩ | ⟨t1, t2, t3⟩ | ⟨t1, t2, t3, t4, t5⟩
    · have ee := hr.uniq t2
      subst ee
      have w := t3.iff c hc
      refine ⟨sp.trans w.symm, fun _ => ?_⟩
      exact AtR.next hk.1 a (Or.inl ⟨t1, t2, t3, t4⟩) hr.2.1 (blk_ex hr.2.1)
    · have ne : ¬ letP (tx p) := by unfold letP digP at *; omega
      have ee := hr.uniq (RunR.here (by omega) (fun _ => ne))
      subst ee
      have x0 : x = 0 := by
        rcases hv with ⟨_, z⟩ | ⟨z, _⟩
        · rw [z, Nat.sub_self]; rfl
        · omega
      have := wz c hc
      exact ⟨⟨fun z => absurd (z.symm.trans x0) this, fun z => by omega⟩, fun z => absurd (z.symm.trans x0) this⟩
    · have ee := hr.uniq (RunR.here (by omega) (fun _ => t1))
      subst ee
      have x0 : x = 0 := by
        rcases hv with ⟨_, z⟩ | ⟨z, _⟩
        · rw [z, Nat.sub_self]; rfl
        · omega
      have := wz c hc
      exact ⟨⟨fun z => absurd (z.symm.trans x0) this, fun z => by omega⟩, fun z => absurd (z.symm.trans x0) this⟩
  · have ee : e = p := by have := hr.1; have := hr.2.1; omega
    subst ee
    have x0 : x = 0 := by
      rcases hv with ⟨_, z⟩ | ⟨z, _⟩
      · rw [z, Nat.sub_self]; rfl
      · omega
    have := wz c hc
    exact ⟨⟨fun z => absurd (z.symm.trans x0) this, fun z => by omega⟩, fun z => absurd (z.symm.trans x0) this⟩
theorem tk_number {tx : Nat → Int32} {n i q p e : Nat} {k v : Int32} (hk : KindR tx n i k v p) (hq : PosR tx n i q) (hr : RunR digP tx n q e) : ((q < e ∧ e ≤ q + 3) ↔ k.toInt = 3) ∧ ((q < e ∧ e ≤ q + 3) → AtR tx n (i + 1) e ∧ v = numF tx q (e - q)) := by
  have ep := PosR.uniq i _ _ hk.1 hq
  subst ep
  rcases hk.2 with ⟨a, e', ht⟩ | ⟨a, b⟩
  · rcases ht with ⟨t1, t2, t3, t4⟩ | ⟨t1, t2, t3⟩ | ⟨t1, t2, t3, t4, t5⟩
    · have ne : ¬ digP (tx p) := by unfold letP digP at *; omega
      have ee := hr.uniq (RunR.here (by omega) (fun _ => ne))
      subst ee
      have := t3.ne3
      exact ⟨⟨fun z => by omega, fun z => absurd z this⟩, fun z => by omega⟩
    · have ee := hr.uniq t2
      subst ee
      have lt : p < e := by
        rcases Nat.lt_or_ge p e with c | c
        · exact c
        · have z : e = p := by have := hr.1; omega
          rw [z] at hr
          exact absurd t1 (hr.2.2.2 a)
      refine ⟨?_, fun z => ⟨AtR.next hk.1 a (Or.inr (Or.inl ⟨t1, t2, t3⟩)) hr.2.1 (blk_ex hr.2.1), ?_⟩⟩
      · rcases t3 with ⟨x, y, _⟩ | ⟨x, y, _⟩
        · exact ⟨fun _ => y, fun _ => ⟨lt, x⟩⟩
        · exact ⟨fun z => by omega, fun z => by omega⟩
      · rcases t3 with ⟨x, y, w⟩ | ⟨x, y, w⟩
        · exact w
        · omega
    · have ee := hr.uniq (RunR.here (by omega) (fun _ => t2))
      subst ee
      exact ⟨⟨fun z => by omega, fun z => by omega⟩, fun z => by omega⟩
  · have ee : e = p := by have := hr.1; have := hr.2.1; omega
    subst ee
    exact ⟨⟨fun z => by omega, fun z => by omega⟩, fun z => by omega⟩
/-- the stop -/
theorem tk_stop {tx : Nat → Int32} {n i q p : Nat} {k v : Int32} (hk : KindR tx n i k v p) (hq : PosR tx n i q) : ((q < n ∧ (tx q).toInt = 59) ↔ k.toInt = 2) ∧ ((q < n ∧ (tx q).toInt = 59) → AtR tx n (i + 1) (q + 1)) := by
  have ep := PosR.uniq i _ _ hk.1 hq
  subst ep
  rcases hk.2 with ⟨a, e', ht⟩ | ⟨a, b⟩
  · rcases ht with ⟨t1, t2, t3, t4⟩ | ⟨t1, t2, t3⟩ | ⟨t1, t2, t3, t4, t5⟩
    · have w := t3
      refine ⟨⟨fun z => ?_, fun z => ?_⟩, fun z => ?_⟩
      · unfold letP at t1; omega
      · rcases w with ⟨j, _, _, c⟩ | ⟨_, c⟩ <;> omega
      · unfold letP at t1; omega
    · refine ⟨⟨fun z => ?_, fun z => ?_⟩, fun z => ?_⟩
      · unfold digP at t1; omega
      · rcases t3 with c | c <;> omega
      · unfold digP at t1; omega
    · refine ⟨⟨fun z => ?_, fun z => ?_⟩, fun z => ?_⟩
      · rcases t4 with c | c
        · exact c.2
        · exact absurd z.2 c.1
      · rcases t4 with c | c
        · exact ⟨a, c.1⟩
        · omega
      · have h := AtR.next hk.1 a (Or.inr (Or.inr ⟨t1, t2, t3, t4, t5⟩)) (by omega) (blk_ex (by omega))
        rw [t3] at h
        exact h
  · exact ⟨⟨fun z => by omega, fun z => by omega⟩, fun z => by omega⟩
theorem tk_end {tx : Nat → Int32} {n i q p : Nat} {k v : Int32} (hk : KindR tx n i k v p) (hq : PosR tx n i q) : q = n ↔ k.toInt = 0 := by
  have ep := PosR.uniq i _ _ hk.1 hq
  subst ep
  rcases hk.2 with ⟨a, e', ht⟩ | ⟨a, b⟩
  · refine ⟨fun z => by omega, fun z => ?_⟩
    rcases ht with ⟨t1, t2, t3, t4⟩ | ⟨t1, t2, t3⟩ | ⟨t1, t2, t3, t4, t5⟩
    · rcases t3 with ⟨j, _, _, c⟩ | ⟨_, c⟩ <;> omega
    · rcases t3 with c | c <;> omega
    · rcases t4 with c | c <;> omega
  · exact ⟨fun _ => b, fun _ => a⟩
-- the tape
def btF (x k : Int32) : Int32 := vp_nar .byte (x >>> (k &&& 31)).toInt8.toInt32
def l4F (l : Int32) : Int32 := l + 1 + 1 + 1 + 1
def fourF (f : Nat → Int32) (l x : Int32) : Nat → Int32 := upd (upd (upd (upd f l.toNatClampNeg (btF x 24)) (l + 1).toNatClampNeg (btF x 16)) (l + 1 + 1).toNatClampNeg (btF x 8)) (l + 1 + 1 + 1).toNatClampNeg (btF x 0)
def feedB (f : Nat → Int32) (l a b c d e : Int32) : Nat → Int32 := fourF (fourF (fourF (fourF (fourF f l a) (l4F l) b) (l4F (l4F l)) c) (l4F (l4F (l4F l))) d) (l4F (l4F (l4F (l4F l)))) e
def l20F (l : Int32) : Int32 := l4F (l4F (l4F (l4F (l4F l))))
def NarP (f : Nat → Int32) : Prop := ∀ k : Nat, vp_nar .byte (f k) = f k
theorem nar_nar (x : Int32) : vp_nar .byte (vp_nar .byte x) = vp_nar .byte x := by
  have e : ∀ y : Int32, vp_nar .byte y = y.toInt8.toInt32 := fun _ => rfl
  rw [e, e, Int8.toInt8_toInt32]
theorem NarP.put {f : Nat → Int32} {k : Nat} {x : Int32} (h : NarP f) : NarP (upd f k (vp_nar .byte x)) := by
  intro j
  by_cases e : j = k
  · rw [e, upd_at]; exact nar_nar x
  · rw [upd_no e]; exact h j
theorem NarP.four {f : Nat → Int32} {l x : Int32} (h : NarP f) : NarP (fourF f l x) := NarP.put (NarP.put (NarP.put (NarP.put h)))
theorem NarP.feed {f : Nat → Int32} {l a b c d e : Int32} (h : NarP f) : NarP (feedB f l a b c d e) := NarP.four (NarP.four (NarP.four (NarP.four (NarP.four h))))
theorem NarP.zero : NarP (fun _ => 0) := fun _ => by
  show vp_nar .byte 0 = 0
  decide
/-- tokens of a text that is the same as far as it goes -/
theorem WordR.same {tx ty : Nat → Int32} {n q e : Nat} {k : Int32} (ht : ∀ j, j < n → tx j = ty j) (he : e ≤ n) (h : WordR tx q e k) : WordR ty q e k := by
  have s : ∀ i, SpellP tx q e i ↔ SpellP ty q e i := fun i => ⟨fun z => ⟨z.1, fun j hj => by rw [← ht (q + j) (by have := z.1; omega)]; exact z.2 j hj⟩, fun z => ⟨z.1, fun j hj => by rw [ht (q + j) (by have := z.1; omega)]; exact z.2 j hj⟩⟩
  rcases h with ⟨i, a, b, c⟩ | ⟨a, b⟩
  · exact Or.inl ⟨i, a, (s i).mp b, c⟩
  · exact Or.inr ⟨fun i hi z => a i hi ((s i).mpr z), b⟩
theorem numF.same {tx ty : Nat → Int32} {n q : Nat} (ht : ∀ j, j < n → tx j = ty j) : ∀ m : Nat, q + m ≤ n → numF tx q m = numF ty q m := by
  intro m
  induction m with
  | zero => intro _; rfl
  | succ m ih =>
    intro h
    show numF tx q m * 10 + tx (q + m) - 48 = numF ty q m * 10 + ty (q + m) - 48
    rw [ih (by omega), ht (q + m) (by omega)]
theorem TokR.same {tx ty : Nat → Int32} {n q e : Nat} {k v : Int32} (ht : ∀ j, j < n → tx j = ty j) (hq : q < n) (h : TokR tx n q k v e) : TokR ty n q k v e := by
  have e0 := ht q hq
  rcases h with ⟨a, b, c, d⟩ | ⟨a, b, c⟩ | ⟨a, b, c, d, f⟩
  · exact Or.inl ⟨by rw [← e0]; exact a, b.same ht, c.same ht b.2.1, d⟩
  · refine Or.inr (Or.inl ⟨by rw [← e0]; exact a, b.same ht, ?_⟩)
    rcases c with ⟨x, y, z⟩ | z
    · exact Or.inl ⟨x, y, by rw [z]; exact numF.same ht _ (by have := b.1; have := b.2.1; omega)⟩
    · exact Or.inr z
  · exact Or.inr (Or.inr ⟨by rw [← e0]; exact a, by rw [← e0]; exact b, c, by rw [← e0]; exact d, f⟩)
theorem PosR.same {tx ty : Nat → Int32} {n : Nat} (ht : ∀ j, j < n → tx j = ty j) : ∀ i q : Nat, PosR tx n i q → PosR ty n i q := by
  intro i
  induction i with
  | zero => intro q h; exact RunR.same ht h
  | succ i ih =>
    intro q h
    obtain ⟨p, h1, h2⟩ := h
    refine ⟨p, ih p h1, ?_⟩
    rcases h2 with ⟨a, k, v, e, b, c⟩ | z
    · exact Or.inl ⟨a, k, v, e, b.same ht a, c.same ht⟩
    · exact Or.inr z
theorem KindR.same {tx ty : Nat → Int32} {n i q : Nat} {k v : Int32} (ht : ∀ j, j < n → tx j = ty j) (h : KindR tx n i k v q) : KindR ty n i k v q := by
  refine ⟨PosR.same ht i q h.1, ?_⟩
  rcases h.2 with ⟨a, e, b⟩ | z
  · exact Or.inl ⟨a, e, b.same ht a⟩
  · exact Or.inr z
theorem l4_toInt {x l : Int32} (h : x = l4F l) (h0 : 0 ≤ l.toInt) (h1 : l.toInt ≤ 1000000) : x.toInt = l.toInt + 4 := by
  have k1 : (1 : Int32).toInt = 1 := by decide
  have a := t_add (x := l + 1) rfl (by omega) (by omega)
  have b := t_add (x := l + 1 + 1) rfl (by omega) (by omega)
  have c := t_add (x := l + 1 + 1 + 1) rfl (by omega) (by omega)
  have d := t_add (x := l + 1 + 1 + 1 + 1) rfl (by omega) (by omega)
  rw [h]
  show (l + 1 + 1 + 1 + 1 : Int32).toInt = l.toInt + 4
  omega
theorem al_cp {f g : Nat → Int32} {j : Int32} {b : Int} (h : Al (fun q => f q = g q) j.toInt) (h0 : 0 ≤ j.toInt) (hb : b ≤ j.toInt + 1) : Al (fun q => upd f j.toNatClampNeg (g j.toNatClampNeg) q = g q) b := by
  intro q hq
  have hc := t_cl h0
  show upd f j.toNatClampNeg (g j.toNatClampNeg) q = g q
  by_cases e : q = j.toNatClampNeg
  · subst e; exact upd_at
  · rw [upd_no e]; exact h q (by omega)
theorem OutR.o {K V : Nat → Int32} {o o' : Prop} {c i f : Nat} (h : OutR K V o c i f) (e : o ↔ o') : OutR K V o' c i f := by
  obtain ⟨a, b, d⟩ := h
  refine ⟨a, b, ?_⟩
  rcases d with ⟨x, y⟩ | ⟨x, y⟩
  · exact Or.inl ⟨e.mp x, y⟩
  · exact Or.inr ⟨fun z => x (e.mpr z), y⟩
theorem fastG.le {K V : Nat → Int32} {i : Nat} {f s : Int32} : i ≤ (fastG K V i f s).2.1 ∧ (fastG K V i f s).2.1 ≤ i + 4 := by
  unfold fastG
  (repeat' split) <;> (dsimp only; omega)
theorem feedG.le {K V : Nat → Int32} {i : Nat} {f s : Int32} : i ≤ (feedG K V i f s).2.1 ∧ (feedG K V i f s).2.1 ≤ i + 4 := by
  unfold feedG
  (repeat' split) <;> (dsimp only; omega)
theorem headG.le {K V : Nat → Int32} {i : Nat} : i ≤ (headG K V i).2.1 ∧ (headG K V i).2.1 ≤ i + 5 := by
  unfold headG
  split
  · have := @fastG.le K V (i + 1) 0 0; omega
  · split
    · have := @feedG.le K V (i + 1) 0 0; omega
    · dsimp only; omega
theorem stmF.le {K V : Nat → Int32} {i : Nat} : i ≤ (stmF K V i).2.1 ∧ (stmF K V i).2.1 ≤ i + 6 := by
  have h := @headG.le K V i
  unfold stmF
  (repeat' split) <;> (try dsimp only) <;> omega
def HidE (P : Prop) : Prop := P
theorem HidE.out {P : Prop} (h : HidE P) : P := h

