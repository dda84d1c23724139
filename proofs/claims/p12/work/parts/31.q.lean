/-- a text of n bytes tx: blanks, letters, digits; runs of them -/
def blkP (x : Int32) : Prop := x.toInt = 32 ∨ x.toInt = 10
def letP (x : Int32) : Prop := 97 ≤ x.toInt ∧ x.toInt ≤ 122
def digP (x : Int32) : Prop := 48 ≤ x.toInt ∧ x.toInt ≤ 57
def RunR (P : Int32 → Prop) (tx : Nat → Int32) (n p e : Nat) : Prop := p ≤ e ∧ e ≤ n ∧ (∀ k, p ≤ k → k < e → P (tx k)) ∧ (e < n → ¬ P (tx e))
theorem RunR.uniq {P : Int32 → Prop} {tx : Nat → Int32} {n p e e' : Nat} (h : RunR P tx n p e) (h' : RunR P tx n p e') : e = e' := by
  rcases Nat.lt_trichotomy e e' with c | c | c
  · exact absurd (h'.2.2.1 e h.1 c) (h.2.2.2 (by have := h'.2.1; omega))
  · exact c
  · exact absurd (h.2.2.1 e' h'.1 c) (h'.2.2.2 (by have := h.2.1; omega))
theorem RunR.cons {P : Int32 → Prop} {tx : Nat → Int32} {n p e : Nat} (hp : P (tx p)) (h : RunR P tx n (p + 1) e) : RunR P tx n p e := by
  obtain ⟨a, b, c, d⟩ := h
  refine ⟨by omega, b, fun k h1 h2 => ?_, d⟩
  by_cases z : k = p
  · rw [z]; exact hp
  · exact c k (by omega) h2
theorem RunR.here {P : Int32 → Prop} {tx : Nat → Int32} {n p : Nat} (hn : p ≤ n) (hp : p < n → ¬ P (tx p)) : RunR P tx n p p := ⟨by omega, hn, fun k _ _ => by omega, hp⟩
theorem RunR.same {P : Int32 → Prop} {tx ty : Nat → Int32} {n p e : Nat} (ht : ∀ k, k < n → tx k = ty k) (h : RunR P tx n p e) : RunR P ty n p e := by
  obtain ⟨a, b, c, d⟩ := h
  exact ⟨a, b, fun k h1 h2 => by rw [← ht k (by omega)]; exact c k h1 h2, fun z => by rw [← ht e z]; exact d z⟩
theorem RunR.again {P : Int32 → Prop} {tx : Nat → Int32} {n p e : Nat} (h : RunR P tx n p e) : RunR P tx n e e := RunR.here h.2.1 h.2.2.2
def stN (i : Nat) : Nat := stLen.getD i 0
def stB (i j : Nat) : Int32 := (stByt.getD i []).getD j 0
def SpellP (tx : Nat → Int32) (q e i : Nat) : Prop := e = q + stN i ∧ ∀ j, j < stN i → tx (q + j) = stB i j
theorem SpellP.one {tx : Nat → Int32} {q e : Nat} : ∀ i j : Nat, i < 7 → j < 7 → SpellP tx q e i → SpellP tx q e j → i = j := by
  intro i j hi hj a b
  have key : ∀ i : Nat, i < 7 → ∀ j : Nat, j < 7 → stN i = stN j → (∀ k : Nat, k < 7 → k < stN i → stB i k = stB j k) → i = j := by decide
  exact key i hi j hj (by have := a.1; have := b.1; omega) (fun k _ hk => by rw [← a.2 k hk]; exact b.2 k (by have := a.1; have := b.1; omega))
/-- the kind of a word -/
def WordR (tx : Nat → Int32) (q e : Nat) (k : Int32) : Prop := (∃ i : Nat, i < 7 ∧ SpellP tx q e i ∧ k.toInt = 4 + i) ∨ ((∀ i : Nat, i < 7 → ¬ SpellP tx q e i) ∧ k.toInt = 1)
theorem WordR.iff {tx : Nat → Int32} {q e : Nat} {k : Int32} (h : WordR tx q e k) (i : Nat) (hi : i < 7) : k.toInt = 4 + (i : Int) ↔ SpellP tx q e i := by
  rcases h with ⟨j, a, b, c⟩ | ⟨a, b⟩
  · constructor
    · intro z
      rw [show i = j by omega]; exact b
    · intro z
      have := SpellP.one i j hi a z b
      omega
  · constructor
    · intro z; omega
    · intro z; exact absurd z (a i hi)
def numF (tx : Nat → Int32) (q : Nat) : Nat → Int32
  | 0 => 0
  | m + 1 => numF tx q m * 10 + tx (q + m) - 48
/-- the token at q: its kind, its value, its end -/
def TokR (tx : Nat → Int32) (n q : Nat) (k v : Int32) (e : Nat) : Prop :=
  (letP (tx q) ∧ RunR letP tx n q e ∧ WordR tx q e k ∧ v.toInt = 0) ∨
  (digP (tx q) ∧ RunR digP tx n q e ∧ ((e ≤ q + 3 ∧ k.toInt = 3 ∧ v = numF tx q (e - q)) ∨ (q + 3 < e ∧ k.toInt = 1 ∧ v.toInt = 0))) ∨
  (¬ letP (tx q) ∧ ¬ digP (tx q) ∧ e = q + 1 ∧ (((tx q).toInt = 59 ∧ k.toInt = 2) ∨ ((tx q).toInt ≠ 59 ∧ k.toInt = 1)) ∧ v.toInt = 0)
theorem TokR.end_uniq {tx : Nat → Int32} {n q e e' : Nat} {k v k' v' : Int32} (h : TokR tx n q k v e) (h' : TokR tx n q k' v' e') : e = e' := by
  rcases h with ⟨a, b, _⟩ | ⟨a, b, _⟩ | ⟨a, b, c, _⟩ <;> rcases h' with ⟨a', b', _⟩ | ⟨a', b', _⟩ | ⟨a', b', c', _⟩
  · exact b.uniq b'
  · unfold letP digP at *; omega
  · exact absurd a a'
  · unfold letP digP at *; omega
  · exact b.uniq b'
  · exact absurd a b'
  · exact absurd a' a
  · exact absurd a' b
  · omega
/-- where token i stands (n: there is none) -/
def PosR (tx : Nat → Int32) (n : Nat) : Nat → Nat → Prop
  | 0, q => RunR blkP tx n 0 q
  | i + 1, q => ∃ p : Nat, PosR tx n i p ∧ ((p < n ∧ ∃ (k v : Int32) (e : Nat), TokR tx n p k v e ∧ RunR blkP tx n e q) ∨ (p = n ∧ q = n))
theorem PosR.uniq {tx : Nat → Int32} {n : Nat} : ∀ (i q q' : Nat), PosR tx n i q → PosR tx n i q' → q = q' := by
  intro i
  induction i with
  | zero => intro q q' h h'; exact RunR.uniq h h'
  | succ i ih =>
    intro q q' h h'
    obtain ⟨p, h1, h2⟩ := h
    obtain ⟨p', h1', h2'⟩ := h'
    have e := ih _ _ h1 h1'
    subst e
    rcases h2 with ⟨a, k, v, e, b, c⟩ | ⟨a, b⟩ <;> rcases h2' with ⟨a', k', v', e', b', c'⟩ | ⟨a', b'⟩
    · have z := b.end_uniq b'
      subst z
      exact c.uniq c'
    · omega
    · omega
    · omega
theorem PosR.le {tx : Nat → Int32} {n : Nat} : ∀ (i q : Nat), PosR tx n i q → q ≤ n := by
  intro i q h
  cases i with
  | zero => exact (show RunR blkP tx n 0 q from h).2.1
  | succ i =>
    obtain ⟨p, _, h2⟩ := h
    rcases h2 with ⟨_, k, v, e, _, c⟩ | ⟨_, b⟩
    · exact c.2.1
    · omega
theorem PosR.nob {tx : Nat → Int32} {n : Nat} : ∀ (i q : Nat), PosR tx n i q → RunR blkP tx n q q := by
  intro i q h
  cases i with
  | zero => exact (show RunR blkP tx n 0 q from h).again
  | succ i =>
    obtain ⟨p, _, h2⟩ := h
    rcases h2 with ⟨_, k, v, e, _, c⟩ | ⟨_, b⟩
    · exact c.again
    · exact RunR.here (by omega) (fun z => by omega)
theorem PosR.stay {tx : Nat → Int32} {n i : Nat} (h : PosR tx n i n) : ∀ k : Nat, PosR tx n (i + k) n := by
  intro k
  induction k with
  | zero => exact h
  | succ k ih => exact ⟨n, ih, Or.inr ⟨rfl, rfl⟩⟩
/-- what token i is: kind 0 where there is none -/
def KindR (tx : Nat → Int32) (n i : Nat) (k v : Int32) (q : Nat) : Prop := PosR tx n i q ∧ ((q < n ∧ ∃ e : Nat, TokR tx n q k v e) ∨ (q = n ∧ k.toInt = 0))
/-- from at the blanks lead to token i -/
def AtR (tx : Nat → Int32) (n i a : Nat) : Prop := ∃ q : Nat, RunR blkP tx n a q ∧ PosR tx n i q
theorem AtR.skip {tx : Nat → Int32} {n i a q : Nat} (h : AtR tx n i a) (hr : RunR blkP tx n a q) : PosR tx n i q := by
  obtain ⟨z, h1, h2⟩ := h
  rw [hr.uniq h1]; exact h2
theorem AtR.of {tx : Nat → Int32} {n i q : Nat} (h : PosR tx n i q) : AtR tx n i q := ⟨q, PosR.nob i q h, h⟩
theorem AtR.next {tx : Nat → Int32} {n i q e : Nat} {k v : Int32} (h : PosR tx n i q) (hq : q < n) (ht : TokR tx n q k v e) (he : e ≤ n) (hs : ∃ z, RunR blkP tx n e z) : AtR tx n (i + 1) e := by
  obtain ⟨z, hz⟩ := hs
  exact ⟨z, hz, q, h, Or.inl ⟨hq, k, v, e, ht, hz⟩⟩
theorem RunR.ex {P : Int32 → Prop} {tx : Nat → Int32} {n : Nat} (hd : ∀ x, P x ∨ ¬ P x) : ∀ (m p : Nat), p + m = n → ∃ e, RunR P tx n p e := by
  intro m
  induction m with
  | zero => intro p h; exact ⟨p, RunR.here (by omega) (fun z => by omega)⟩
  | succ m ih =>
    intro p h
    rcases hd (tx p) with a | a
    · obtain ⟨e, he⟩ := ih (p + 1) (by omega)
      exact ⟨e, RunR.cons a he⟩
    · exact ⟨p, RunR.here (by omega) (fun _ => a)⟩
theorem blk_em (x : Int32) : blkP x ∨ ¬ blkP x := Classical.em _
theorem blk_ex {tx : Nat → Int32} {n p : Nat} (h : p ≤ n) : ∃ e, RunR blkP tx n p e := RunR.ex blk_em (n - p) p (by omega)
/-- the tokens of a text in rows -/
def TokS (tx : Nat → Int32) (n : Nat) (fk fp fv : Nat → Int32) (s : Int) : Prop := Al (fun i => PosR tx n i (fp i).toNatClampNeg ∧ (fp i).toNatClampNeg < n ∧ 0 ≤ (fp i).toInt ∧ ∃ e, TokR tx n (fp i).toNatClampNeg (fk i) (fv i) e) s
def kC (s : Int32) (fk : Nat → Int32) (i : Nat) : Int32 := if (i : Int) < s.toInt then fk i else 0
def pC (s l : Int32) (fp : Nat → Int32) (i : Nat) : Int32 := if (i : Int) < s.toInt then fp i else l
/-- the rows hold every token that can be asked for -/
def TokA (tx : Nat → Int32) (n : Nat) (s l : Int32) (fk fp fv : Nat → Int32) : Prop := ∀ i : Nat, i ≤ 96 → KindR tx n i (kC s fk i) (kC s fv i) (pC s l fp i).toNatClampNeg ∧ 0 ≤ (pC s l fp i).toInt
theorem TokA.of {tx : Nat → Int32} {n : Nat} {s l : Int32} {fk fp fv : Nat → Int32} (h : TokS tx n fk fp fv s.toInt) (hs : s.toInt ≤ 97) (hs0 : 0 ≤ s.toInt) (hl : l.toNatClampNeg = n) (hl0 : 0 ≤ l.toInt) (he : s.toInt < 97 → PosR tx n s.toNatClampNeg n) : TokA tx n s l fk fp fv := by
  intro i hi
  have hc := t_cl hs0
  unfold kC pC
  by_cases c : (i : Int) < s.toInt
  · rw [if_pos c, if_pos c, if_pos c]
    obtain ⟨a, b, d, e⟩ := h i c
    exact ⟨⟨a, Or.inl ⟨b, e⟩⟩, d⟩
  · rw [if_neg c, if_neg c, if_neg c]
    have z := (he (by omega)).stay (i - s.toNatClampNeg)
    rw [show s.toNatClampNeg + (i - s.toNatClampNeg) = i by omega] at z
    rw [hl]
    exact ⟨⟨z, Or.inr ⟨rfl, by decide⟩⟩, hl0⟩
theorem chr_eq : ∀ i : Nat, i < 7 → ∀ j : Nat, j < 7 → (((stB i j) &&& 255).toUInt32 % 65536).toInt32 = stB i j := by decide
/-- what endOfToken and kindOf tell of a token from a to b -/
def EndR (tx : Nat → Int32) (n a b : Nat) : Prop := (letP (tx a) ∧ RunR letP tx n a b) ∨ (¬ letP (tx a) ∧ digP (tx a) ∧ RunR digP tx n a b) ∨ (¬ letP (tx a) ∧ ¬ digP (tx a) ∧ b = a + 1)
def KoR (tx : Nat → Int32) (a b : Nat) (k : Int32) : Prop := (letP (tx a) ∧ WordR tx a b k) ∨ (¬ letP (tx a) ∧ digP (tx a) ∧ ((b ≤ a + 3 ∧ k.toInt = 3) ∨ (a + 3 < b ∧ k.toInt = 1))) ∨ (¬ letP (tx a) ∧ ¬ digP (tx a) ∧ (((tx a).toInt = 59 ∧ k.toInt = 2) ∨ ((tx a).toInt ≠ 59 ∧ k.toInt = 1)))
theorem WordR.ne3 {tx : Nat → Int32} {q e : Nat} {k : Int32} (h : WordR tx q e k) : k.toInt ≠ 3 := by
  rcases h with ⟨i, a, b, c⟩ | ⟨a, b⟩ <;> omega
theorem TokR.of {tx : Nat → Int32} {n a b : Nat} {k v : Int32} (he : EndR tx n a b) (hk : KoR tx a b k) (hv : (k.toInt = 3 ∧ v = numF tx a (b - a)) ∨ (k.toInt ≠ 3 ∧ v.toInt = 0)) : TokR tx n a k v b := by
  rcases he with ⟨e1, e2⟩ | ⟨e1, e2, e3⟩ | ⟨e1, e2, e3⟩
  · rcases hk with ⟨k1, k2⟩ | ⟨k1, _⟩ | ⟨k1, _⟩
    · have z := k2.ne3
      exact Or.inl ⟨e1, e2, k2, by rcases hv with w | w; exact absurd w.1 z; exact w.2⟩
    · exact absurd e1 k1
    · exact absurd e1 k1
  · rcases hk with ⟨k1, _⟩ | ⟨_, _, k3⟩ | ⟨_, k2, _⟩
    · exact absurd k1 e1
    · refine Or.inr (Or.inl ⟨e2, e3, ?_⟩)
      rcases k3 with ⟨x, y⟩ | ⟨x, y⟩
      · exact Or.inl ⟨x, y, by rcases hv with w | w; exact w.2; exact absurd y w.1⟩
      · exact Or.inr ⟨x, y, by rcases hv with w | w; omega; exact w.2⟩
    · exact absurd e2 k2
  · rcases hk with ⟨k1, _⟩ | ⟨_, k2, _⟩ | ⟨_, _, k3⟩
    · exact absurd k1 e1
    · exact absurd k2 e2
    · exact Or.inr (Or.inr ⟨e1, e2, e3, k3, by rcases hv with w | w; omega; exact w.2⟩)
theorem EndR.rg {tx : Nat → Int32} {n a b : Nat} (h : EndR tx n a b) (ha : a < n) : a < b ∧ b ≤ n := by
  have go : ∀ P : Int32 → Prop, P (tx a) → RunR P tx n a b → a < b ∧ b ≤ n := by
    intro P hp hr
    refine ⟨?_, hr.2.1⟩
    rcases Nat.lt_or_ge a b with c | c
    · exact c
    · have e : b = a := by have := hr.1; omega
      rw [e] at hr
      exact absurd hp (hr.2.2.2 ha)
  rcases h with ⟨e1, e2⟩ | ⟨e1, e2, e3⟩ | ⟨e1, e2, e3⟩
  · exact go _ e1 e2
  · exact go _ e2 e3
  · omega
/-- as far as the text was cut into tokens: rows of s tokens, the next one found from j on -/
def ScanL (tx : Nat → Int32) (n : Nat) (fk fp fv : Nat → Int32) (s : Int) (j : Nat) : Prop := TokS tx n fk fp fv s ∧ ∀ q, RunR blkP tx n j q → PosR tx n s.toNat q
theorem ScanL.blank {tx : Nat → Int32} {n j : Nat} {fk fp fv : Nat → Int32} {s : Int} (h : ScanL tx n fk fp fv s j) (hb : blkP (tx j)) : ScanL tx n fk fp fv s (j + 1) := ⟨h.1, fun q hq => h.2 q (RunR.cons hb hq)⟩
theorem ScanL.tok {tx : Nat → Int32} {n b : Nat} {fk fp fv gk gp gv : Nat → Int32} {s a k v : Int32} {s1 : Int} (h : ScanL tx n fk fp fv s.toInt a.toNatClampNeg) (h0 : 0 ≤ s.toInt) (ha0 : 0 ≤ a.toInt) (ha : a.toNatClampNeg < n) (hb : ¬ blkP (tx a.toNatClampNeg)) (ht : TokR tx n a.toNatClampNeg k v b) (hs : s1 = s.toInt + 1) (ek : gk = upd fk s.toNatClampNeg k) (ep : gp = upd fp s.toNatClampNeg a) (ev : gv = upd fv s.toNatClampNeg v) : ScanL tx n gk gp gv s1 b := by
  have hc := t_cl h0
  have hp : PosR tx n s.toInt.toNat a.toNatClampNeg := h.2 _ (RunR.here (by omega) (fun _ => hb))
  subst ek ep ev
  refine ⟨fun i hi => ?_, fun q hq => ?_⟩
  · show PosR tx n i (upd fp s.toNatClampNeg a i).toNatClampNeg ∧ (upd fp s.toNatClampNeg a i).toNatClampNeg < n ∧ 0 ≤ (upd fp s.toNatClampNeg a i).toInt ∧ ∃ e, TokR tx n (upd fp s.toNatClampNeg a i).toNatClampNeg (upd fk s.toNatClampNeg k i) (upd fv s.toNatClampNeg v i) e
    by_cases e : i = s.toNatClampNeg
    · subst e
      rw [upd_at, upd_at, upd_at]
      rw [show s.toInt.toNat = s.toNatClampNeg by omega] at hp
      exact ⟨hp, ha, ha0, b, ht⟩
    · rw [upd_no e, upd_no e, upd_no e]
      exact h.1 i (by omega)
  · rw [hs, show (s.toInt + 1).toNat = s.toInt.toNat + 1 by omega]
    exact ⟨a.toNatClampNeg, hp, Or.inl ⟨ha, k, v, b, ht, hq⟩⟩
/-- statements, by their tokens: kind (or -1), the token behind (or at fault), the two numbers -/
def fastG (K V : Nat → Int32) (i : Nat) (f0 s0 : Int32) : Int32 × Nat × Int32 × Int32 :=
  if K i = 5 then (if K (i + 1) = 3 then (1, i + 2, V (i + 1), s0) else (-1, i + 1, 0, 0))
  else if K i = 6 then
    if K (i + 1) = 3 then
      if K (i + 2) = 7 then (if K (i + 3) = 3 then (2, i + 4, V (i + 1), V (i + 3)) else (-1, i + 3, 0, 0)) else (-1, i + 2, 0, 0)
    else (-1, i + 1, 0, 0)
  else (-1, i, 0, 0)
def feedG (K V : Nat → Int32) (i : Nat) (f0 s0 : Int32) : Int32 × Nat × Int32 × Int32 :=
  if K i = 4 then (if K (i + 1) = 3 then (3, i + 2, f0, V (i + 1)) else (-1, i + 1, 0, 0))
  else if K i = 9 then
    if K (i + 1) = 3 then (if K (i + 2) = 3 then (4, i + 3, V (i + 1), V (i + 2)) else (-1, i + 2, 0, 0)) else (-1, i + 1, 0, 0)
  else if K i = 10 then (if K (i + 1) = 3 then (5, i + 2, f0, V (i + 1)) else (-1, i + 1, 0, 0))
  else if K i = 3 then (6, i + 1, f0, V i) else (-1, i, 0, 0)
def headG (K V : Nat → Int32) (i : Nat) : Int32 × Nat × Int32 × Int32 :=
  if K i = 4 then fastG K V (i + 1) 0 0 else if K i = 8 then feedG K V (i + 1) 0 0 else (-1, i, 0, 0)
def stmF (K V : Nat → Int32) (i : Nat) : Int32 × Nat × Int32 × Int32 :=
  if (headG K V i).1 = -1 then headG K V i
  else if K (headG K V i).2.1 = 2 then ((headG K V i).1, (headG K V i).2.1 + 1, (headG K V i).2.2) else (-1, (headG K V i).2.1, 0, 0)
theorem acc1 {r n1 x k c : Int32} (h : (r.toInt = 1 ∧ c = k ∧ n1.toInt = x.toInt + 1) ∨ (r.toInt = 0 ∧ ¬ c = k ∧ n1 = x)) (hr : r.toInt ≠ 0) : c = k ∧ n1.toInt = x.toInt + 1 := by
  rcases h with h | h
  · exact h.2
  · exact absurd h.1 hr
theorem acc0 {r n1 x k c : Int32} (h : (r.toInt = 1 ∧ c = k ∧ n1.toInt = x.toInt + 1) ∨ (r.toInt = 0 ∧ ¬ c = k ∧ n1 = x)) (hr : r.toInt = 0) : ¬ c = k ∧ n1.toInt = x.toInt := by
  rcases h with h | h
  · omega
  · exact ⟨h.2.1, by rw [h.2.2]⟩
theorem acc01 {r n1 x k c : Int32} (h : (r.toInt = 1 ∧ c = k ∧ n1.toInt = x.toInt + 1) ∨ (r.toInt = 0 ∧ ¬ c = k ∧ n1 = x)) : r.toInt = 0 ∨ r.toInt = 1 := by
  rcases h with h | h
  · exact Or.inr h.1
  · exact Or.inl h.1
theorem ixs {x y : Int32} (h : x.toInt = y.toInt) : x.toNatClampNeg = y.toNatClampNeg := by rw [i32_ext h]
/-- i tokens are read behind c statements -/
def RdR (K V : Nat → Int32) : Nat → Nat → Prop
  | 0, i => i = 0
  | c + 1, j => ∃ i : Nat, RdR K V c i ∧ ¬ K i = 0 ∧ ¬ (stmF K V i).1 = -1 ∧ j = (stmF K V i).2.1
theorem RdR.uniq {K V : Nat → Int32} : ∀ (c i j : Nat), RdR K V c i → RdR K V c j → i = j := by
  intro c
  induction c with
  | zero => intro i j h h'; exact Eq.trans h (Eq.symm h')
  | succ c ih =>
    intro i j h h'
    obtain ⟨a, h1, h2, h3, h4⟩ := h
    obtain ⟨b, h1', h2', h3', h4'⟩ := h'
    have e := ih _ _ h1 h1'
    subst e
    rw [h4, h4']
theorem RdR.back {K V : Nat → Int32} : ∀ (d c i : Nat), RdR K V (c + d) i → ∃ j, RdR K V c j := by
  intro d
  induction d with
  | zero => intro c i h; exact ⟨i, h⟩
  | succ d ih =>
    intro c i h
    obtain ⟨a, h1, _⟩ := h
    exact ih c a h1
/-- the reading ends behind c statements at token i: at the text's end (o), or at a fault at token f -/
def OutR (K V : Nat → Int32) (o : Prop) (c i f : Nat) : Prop := RdR K V c i ∧ c ≤ 16 ∧ ((o ∧ K i = 0) ∨ (¬ o ∧ ¬ K i = 0 ∧ ((c < 16 ∧ (stmF K V i).1 = -1 ∧ f = (stmF K V i).2.1) ∨ (c = 16 ∧ f = i))))
theorem OutR.last {K V : Nat → Int32} {o : Prop} {c i f d j : Nat} (h : OutR K V o c i f) (hd : RdR K V d j) (hd16 : d ≤ 16) : d ≤ c := by
  obtain ⟨h1, h2, h3⟩ := h
  rcases Nat.lt_or_ge c d with z | z
  · obtain ⟨a, ha⟩ := RdR.back (d - (c + 1)) (c + 1) j (by rw [show c + 1 + (d - (c + 1)) = d by omega]; exact hd)
    obtain ⟨b, b1, b2, b3, _⟩ := ha
    have e := RdR.uniq _ _ _ b1 h1
    subst e
    rcases h3 with w | ⟨_, _, w | w⟩
    · exact absurd w.2 b2
    · exact absurd w.2.1 b3
    · omega
  · exact z
theorem OutR.uniq {K V : Nat → Int32} {o o' : Prop} {c i f c' i' f' : Nat} (h : OutR K V o c i f) (h' : OutR K V o' c' i' f') : c = c' ∧ i = i' ∧ (o ↔ o') ∧ (¬ o → f = f') := by
  have e1 := h.last h'.1 h'.2.1
  have e2 := h'.last h.1 h.2.1
  have e : c = c' := by omega
  subst e
  have ei := RdR.uniq _ _ _ h.1 h'.1
  subst ei
  refine ⟨rfl, rfl, ?_, ?_⟩
  · rcases h.2.2 with ⟨a, b⟩ | ⟨a, b, _⟩ <;> rcases h'.2.2 with ⟨a', b'⟩ | ⟨a', b', _⟩
    · exact ⟨fun _ => a', fun _ => a⟩
    · exact absurd b b'
    · exact absurd b' b
    · exact ⟨fun z => absurd z a, fun z => absurd z a'⟩
  · intro no
    rcases h.2.2 with ⟨a, b⟩ | ⟨a, b, q⟩
    · exact absurd a no
    · rcases h'.2.2 with ⟨a', b'⟩ | ⟨a', b', q'⟩
      · exact absurd b' b
      · rcases q with ⟨x, y, z⟩ | ⟨x, y⟩ <;> rcases q' with ⟨x', y', z'⟩ | ⟨x', y'⟩
        · rw [z, z']
        · omega
        · omega
        · rw [y, y']
/-- rows of what was read -/
def RowR (K V : Nat → Int32) (fk ff fs : Nat → Int32) (t : Nat) : Prop := ∃ i : Nat, RdR K V t i ∧ fk t = (stmF K V i).1 ∧ ff t = (stmF K V i).2.2.1 ∧ fs t = (stmF K V i).2.2.2
theorem row_put {K V : Nat → Int32} {fk ff fs : Nat → Int32} {j x y z : Int32} {b : Int} {i : Nat} (h : Al (RowR K V fk ff fs) j.toInt) (h0 : 0 ≤ j.toInt) (hb : b ≤ j.toInt + 1) (hr : RdR K V j.toNatClampNeg i) (hx : x = (stmF K V i).1) (hy : y = (stmF K V i).2.2.1) (hz : z = (stmF K V i).2.2.2) : Al (RowR K V (upd fk j.toNatClampNeg x) (upd ff j.toNatClampNeg y) (upd fs j.toNatClampNeg z)) b := by
  intro q hq
  have hc := t_cl h0
  by_cases e : q = j.toNatClampNeg
  · subst e
    exact ⟨i, hr, by rw [upd_at]; exact hx, by rw [upd_at]; exact hy, by rw [upd_at]; exact hz⟩
  · obtain ⟨a, a1, a2, a3, a4⟩ := h q (by omega)
    exact ⟨a, a1, by rw [upd_no e]; exact a2, by rw [upd_no e]; exact a3, by rw [upd_no e]; exact a4⟩

