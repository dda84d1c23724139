def Al (Q : Nat → Prop) (b : Int) : Prop := ∀ j : Nat, (j : Int) < b → Q j
theorem Al.zero {Q : Nat → Prop} {b : Int} (h : b ≤ 0) : Al Q b := fun j hj => absurd hj (by omega)
theorem Al.up {Q : Nat → Prop} {i : Int32} {b : Int} (h : Al Q i.toInt) (h0 : 0 ≤ i.toInt) (hq : Q i.toNatClampNeg) (hb : b ≤ i.toInt + 1) : Al Q b := by
  intro j hj
  have hc := t_cl h0
  by_cases e : j = i.toNatClampNeg
  · rw [e]; exact hq
  · exact h j (by omega)
theorem Al.to {Q : Nat → Prop} {b b' : Int} (h : Al Q b) (hb : b' ≤ b) : Al Q b' := fun j hj => h j (by omega)
theorem Al.at {Q : Nat → Prop} {i : Int32} {b : Int} (h : Al Q b) (h0 : 0 ≤ i.toInt) (hb : i.toInt < b) : Q i.toNatClampNeg := h _ (by have := t_cl h0; omega)
theorem ix1 {x i : Int32} (h : x.toInt = i.toInt + 1) (hi : 0 ≤ i.toInt) : x.toNatClampNeg = i.toNatClampNeg + 1 := by
  have := t_cl hi; have := t_cl (x := x) (by omega); omega
theorem nI_ix {i : Int32} (h : 0 ≤ i.toInt) : nI i.toNatClampNeg = i := by
  rcases t_no (x := i) with h1 | h1
  · exact h1.symm
  · omega
theorem ix0 : (0 : Int32).toNatClampNeg = 0 := by decide
theorem i32_ext {x y : Int32} (h : x.toInt = y.toInt) : x = y := Int32.toInt_inj.mp h
/-- the first of the least among those that may be taken -/
def IsPick (ok : Nat → Prop) (key : Nat → Int) (n : Int) (r : Int32) : Prop :=
  (r.toInt = -1 ∧ Al (fun q => ¬ ok q) n) ∨ (0 ≤ r.toInt ∧ r.toInt < n ∧ ok r.toNatClampNeg ∧ Al (fun q => ok q → key r.toNatClampNeg ≤ key q) n ∧ Al (fun q => ok q → key r.toNatClampNeg < key q) r.toInt)
theorem IsPick.rg {ok : Nat → Prop} {key : Nat → Int} {n : Int} {r : Int32} (h : IsPick ok key n r) : r.toInt = -1 ∨ (0 ≤ r.toInt ∧ r.toInt < n) := by
  rcases h with h | h
  · exact Or.inl h.1
  · exact Or.inr ⟨h.1, h.2.1⟩
theorem IsPick.zero {ok : Nat → Prop} {key : Nat → Int} {n : Int} {r : Int32} (h : r.toInt = -1) (hn : n ≤ 0) : IsPick ok key n r := Or.inl ⟨h, Al.zero hn⟩
theorem IsPick.skip {ok : Nat → Prop} {key : Nat → Int} {a j : Int32} {b : Int} (h : IsPick ok key j.toInt a) (h0 : 0 ≤ j.toInt) (hb : b = j.toInt + 1) (hn : ¬ ok j.toNatClampNeg) : IsPick ok key b a := by
  rcases h with h | ⟨h1, h2, h3, h4, h5⟩
  · exact Or.inl ⟨h.1, h.2.up h0 hn (by omega)⟩
  · exact Or.inr ⟨h1, by omega, h3, h4.up h0 (fun q => absurd q hn) (by omega), h5⟩
theorem IsPick.keep {ok : Nat → Prop} {key : Nat → Int} {a j : Int32} {b : Int} (h : IsPick ok key j.toInt a) (h0 : 0 ≤ j.toInt) (hb : b = j.toInt + 1) (ha : a.toInt ≠ -1) (hk : key a.toNatClampNeg ≤ key j.toNatClampNeg) : IsPick ok key b a := by
  rcases h with h | ⟨h1, h2, h3, h4, h5⟩
  · exact absurd h.1 ha
  · exact Or.inr ⟨h1, by omega, h3, h4.up h0 (fun _ => hk) (by omega), h5⟩
theorem IsPick.take {ok : Nat → Prop} {key : Nat → Int} {a j : Int32} {b : Int} (h : IsPick ok key j.toInt a) (h0 : 0 ≤ j.toInt) (hb : b = j.toInt + 1) (hok : ok j.toNatClampNeg) (hk : a.toInt = -1 ∨ key j.toNatClampNeg < key a.toNatClampNeg) : IsPick ok key b j := by
  have hc := t_cl h0
  refine Or.inr ⟨h0, by omega, hok, ?_, ?_⟩
  · intro q hq hokq
    by_cases e : q = j.toNatClampNeg
    · rw [e]; exact Int.le_refl _
    · rcases h with h | ⟨h1, h2, h3, h4, h5⟩
      · exact absurd hokq (h.2 q (by omega))
      · rcases hk with hk | hk
        · omega
        · exact Int.le_of_lt (Int.lt_of_lt_of_le hk (h4 q (by omega) hokq))
  · intro q hq hokq
    rcases h with h | ⟨h1, h2, h3, h4, h5⟩
    · exact absurd hokq (h.2 q hq)
    · rcases hk with hk | hk
      · omega
      · exact Int.lt_of_lt_of_le hk (h4 q hq hokq)
theorem IsPick.uniq {ok ok' : Nat → Prop} {key key' : Nat → Int} {n : Int} {r r' : Int32} (h : IsPick ok key n r) (h' : IsPick ok' key' n r') (e1 : Al (fun q => ok q ↔ ok' q) n) (e2 : Al (fun q => ok q → key q = key' q) n) : r = r' := by
  apply i32_ext
  rcases h with ⟨a1, a2⟩ | ⟨a1, a2, a3, a4, a5⟩ <;> rcases h' with ⟨b1, b2⟩ | ⟨b1, b2, b3, b4, b5⟩
  · omega
  · exact absurd ((e1.at b1 b2).mpr b3) (a2.at b1 b2)
  · exact absurd ((e1.at a1 a2).mp a3) (b2.at a1 a2)
  · have ra := t_cl a1
    have rb := t_cl b1
    have okr' : ok r'.toNatClampNeg := (e1.at b1 b2).mpr b3
    have okr : ok' r.toNatClampNeg := (e1.at a1 a2).mp a3
    have k1 : key r.toNatClampNeg = key' r.toNatClampNeg := e2.at a1 a2 a3
    have k2 : key r'.toNatClampNeg = key' r'.toNatClampNeg := e2.at b1 b2 okr'
    by_cases c : r.toInt < r'.toInt
    · have x : key' r'.toNatClampNeg < key' r.toNatClampNeg := b5 r.toNatClampNeg (by omega) okr
      have y : key r.toNatClampNeg ≤ key r'.toNatClampNeg := a4 r'.toNatClampNeg (by omega) okr'
      omega
    · by_cases c2 : r'.toInt < r.toInt
      · have x : key r.toNatClampNeg < key r'.toNatClampNeg := a5 r'.toNatClampNeg (by omega) okr'
        have y : key' r'.toNatClampNeg ≤ key' r.toNatClampNeg := b4 r.toNatClampNeg (by omega) okr
        omega
      · omega
theorem IsPick.congr {ok ok' : Nat → Prop} {key : Nat → Int} {n : Int} {r : Int32} (h : IsPick ok key n r) (e1 : Al (fun q => ok q ↔ ok' q) n) : IsPick ok' key n r := by
  rcases h with ⟨a1, a2⟩ | ⟨a1, a2, a3, a4, a5⟩
  · exact Or.inl ⟨a1, fun q hq h => a2 q hq ((e1 q hq).mpr h)⟩
  · exact Or.inr ⟨a1, a2, (e1.at a1 a2).mp a3, fun q hq h => a4 q hq ((e1 q hq).mpr h), fun q hq h => a5 q hq ((e1 q (by omega)).mpr h)⟩
theorem if1 {r : Int32} {P : Prop} (h : (r.toInt = 1 ∧ P) ∨ (r.toInt = 0 ∧ ¬ P)) (h1 : r.toInt ≠ 0) : P := by
  rcases h with h | h
  · exact h.2
  · exact absurd h.1 h1
theorem if0 {r : Int32} {P : Prop} (h : (r.toInt = 1 ∧ P) ∨ (r.toInt = 0 ∧ ¬ P)) (h1 : r.toInt = 0) : ¬ P := by
  rcases h with h | h
  · omega
  · exact h.2
theorem if01 {r : Int32} {P : Prop} (h : (r.toInt = 1 ∧ P) ∨ (r.toInt = 0 ∧ ¬ P)) : r.toInt = 0 ∨ r.toInt = 1 := by
  rcases h with h | h
  · exact Or.inr h.1
  · exact Or.inl h.1
theorem upd_at {f : Nat → Int32} {k : Nat} {x : Int32} : upd f k x k = x := if_pos rfl
theorem upd_no {f : Nat → Int32} {k j : Nat} {x : Int32} (h : j ≠ k) : upd f k x j = f j := if_neg h
theorem al_put {f : Nat → Int32} {j x : Int32} {b : Int} (h : Al (fun q => f q = x) j.toInt) (h0 : 0 ≤ j.toInt) (hb : b ≤ j.toInt + 1) : Al (fun q => upd f j.toNatClampNeg x q = x) b := by
  intro q hq
  have hc := t_cl h0
  show upd f j.toNatClampNeg x q = x
  by_cases e : q = j.toNatClampNeg
  · subst e; exact upd_at
  · rw [upd_no e]; exact h q (by omega)

