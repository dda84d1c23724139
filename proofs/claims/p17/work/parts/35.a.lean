/-- heads by their ranks -/
def rks6 (f : Nat → Int32) : Int32 := f 1 + f 2 * 2 + f 3 * 3 + f 4 * 4 + f 5 * 5
theorem rks6_z : rks6 (fun _ => 0) = 0 := by decide
theorem rks6_add (f : Nat → Int32) (k x : Int32) (h0 : 0 ≤ k.toInt) (h5 : k.toInt ≤ 5) : rks6 (upd f k.toNatClampNeg (f k.toNatClampNeg + x)) = rks6 f + x * k := by
  have hk : k = 0 ∨ k = 1 ∨ k = 2 ∨ k = 3 ∨ k = 4 ∨ k = 5 := by
    have z : k.toInt = 0 ∨ k.toInt = 1 ∨ k.toInt = 2 ∨ k.toInt = 3 ∨ k.toInt = 4 ∨ k.toInt = 5 := by omega
    rcases z with z | z | z | z | z | z
    · exact Or.inl (i32_ext (z.trans (by decide)))
    · exact Or.inr (Or.inl (i32_ext (z.trans (by decide))))
    · exact Or.inr (Or.inr (Or.inl (i32_ext (z.trans (by decide)))))
    · exact Or.inr (Or.inr (Or.inr (Or.inl (i32_ext (z.trans (by decide))))))
    · exact Or.inr (Or.inr (Or.inr (Or.inr (Or.inl (i32_ext (z.trans (by decide)))))))
    · exact Or.inr (Or.inr (Or.inr (Or.inr (Or.inr (i32_ext (z.trans (by decide)))))))
  have n0 : (0 : Int32).toNatClampNeg = 0 := by decide
  have n1 : (1 : Int32).toNatClampNeg = 1 := by decide
  have n2 : (2 : Int32).toNatClampNeg = 2 := by decide
  have n3 : (3 : Int32).toNatClampNeg = 3 := by decide
  have n4 : (4 : Int32).toNatClampNeg = 4 := by decide
  have n5 : (5 : Int32).toNatClampNeg = 5 := by decide
  rcases hk with h | h | h | h | h | h <;> subst h <;> (first | rw [n0] | rw [n1] | rw [n2] | rw [n3] | rw [n4] | rw [n5]) <;> simp only [rks6, upd] <;> simp <;> grind
theorem rks6_zero {f : Nat → Int32} (h : InR f 6 0 1) : rks6 f = 0 := by
  have z : ∀ j : Nat, j < 6 → f j = 0 := fun j hj => i32_ext (by have w := h j (by omega); have k : (0 : Int32).toInt = 0 := by decide
                                                                 omega)
  unfold rks6
  rw [z 1 (by omega), z 2 (by omega), z 3 (by omega), z 4 (by omega), z 5 (by omega)]
  decide
/-- what the guests of the ranks ahead of q need, on top of b -/
def psF (b : Int32) (g : Nat → Int32) (v : Int32) : Nat → Int32
  | 0 => b
  | q + 1 => psF b g v q + g q * (v + nI q)
theorem psF_six (b v : Int32) (g : Nat → Int32) : psF b g v 6 = b + sum6 g * v + rks6 g := by
  have n0 : nI 0 = 0 := by decide
  have n1 : nI 1 = 1 := by decide
  have n2 : nI 2 = 2 := by decide
  have n3 : nI 3 = 3 := by decide
  have n4 : nI 4 = 4 := by decide
  have n5 : nI 5 = 5 := by decide
  show b + g 0 * (v + nI 0) + g 1 * (v + nI 1) + g 2 * (v + nI 2) + g 3 * (v + nI 3) + g 4 * (v + nI 4) + g 5 * (v + nI 5) = b + sum6 g * v + rks6 g
  rw [n0, n1, n2, n3, n4, n5]
  unfold sum6 rks6
  grind
def MinR (a b x : Int32) : Prop := x.toInt ≤ a.toInt ∧ x.toInt ≤ b.toInt ∧ (x.toInt = a.toInt ∨ x.toInt = b.toInt)
theorem MinR.uniq {a b x y : Int32} (h : MinR a b x) (h' : MinR b a y) : x = y := i32_ext (by obtain ⟨h1, h2, h3⟩ := h; obtain ⟨k1, k2, k3⟩ := h'; omega)
theorem LasU.same {C : Nat → Prop} {fv fz : Nat → Int32} {u r r' : Int32} (h : LasU C fv fz u r) (h' : LasU C fv fz u r') : r = r' := by
  rcases h with ⟨a, b⟩ | ⟨a, b⟩ <;> rcases h' with ⟨a', b'⟩ | ⟨a', b'⟩
  · exact i32_ext (by omega)
  · omega
  · omega
  · exact b.uniq b' (fun _ _ _ => ⟨Iff.rfl, fun _ => rfl⟩)
theorem GueU.same {Pk : Int32 → Prop} {C : Nat → Prop} {fv fz : Nat → Int32} {r r' : Int32} (hp : ∀ u u', Pk u → Pk u' → u = u') (h : ∃ u, Pk u ∧ GueU C fv fz u r) (h' : ∃ u, Pk u ∧ GueU C fv fz u r') : r = r' := by
  obtain ⟨u, a, b⟩ := h
  obtain ⟨u', a', b'⟩ := h'
  have e := hp u u' a a'
  subst e
  exact b.rel b' (fun _ _ x y => x.same y)
/-- the model's needs so far: none of the guests asked yet, or all of them at one share -/
def NeeR (b : Int32) (g : Nat → Int32) (Gu : Int32 → Prop) (j : Nat) (n : Int32) : Prop := (j = 0 ∧ n = b) ∨ (0 < j ∧ ∃ v : Int32, Gu v ∧ n = psF b g v j)
theorem NeeR.up {b : Int32} {g : Nat → Int32} {Gu : Int32 → Prop} {j x y v n n1 : Int32} (h : NeeR b g Gu j.toNatClampNeg n) (h0 : 0 ≤ j.toInt) (hx : x.toInt = j.toInt + 1) (hs : ∀ v v' : Int32, Gu v → Gu v' → v = v') (hv : Gu v) (hy : y = g j.toNatClampNeg) (hn : n1 = n + y * (v + j)) : NeeR b g Gu x.toNatClampNeg n1 := by
  rw [ix1 hx h0]
  refine Or.inr ⟨by omega, v, hv, ?_⟩
  show n1 = psF b g v j.toNatClampNeg + g j.toNatClampNeg * (v + nI j.toNatClampNeg)
  rw [nI_ix h0, ← hy, hn]
  rcases h with ⟨a, c⟩ | ⟨a, w, c, d⟩
  · rw [a, c]
    rfl
  · rw [d, hs w v c hv]
theorem NeeR.six {b n : Int32} {g : Nat → Int32} {Gu : Int32 → Prop} {j : Int32} (h : NeeR b g Gu j.toNatClampNeg n) (hj : j.toInt = 6) : ∃ v : Int32, Gu v ∧ n = b + sum6 g * v + rks6 g := by
  have c := t_cl (x := j) (by omega)
  rcases h with ⟨a, _⟩ | ⟨_, v, a, e⟩
  · omega
  · rw [show j.toNatClampNeg = 6 by omega, psF_six] at e
    exact ⟨v, a, e⟩

