theorem IsPick.congr {ok ok' : Nat → Prop} {key : Nat → Int} {n : Int} {r : Int32} (h : IsPick ok key n r) (e1 : Al (fun q => ok q ↔ ok' q) n) : IsPick ok' key n r := by
  rcases h with ⟨a1, a2⟩ | ⟨a1, a2, a3, a4, a5⟩
  · exact Or.inl ⟨a1, fun q hq h => a2 q hq ((e1 q hq).mpr h)⟩
  · exact Or.inr ⟨a1, a2, (e1.at a1 a2).mp a3, fun q hq h => a4 q hq ((e1 q hq).mpr h), fun q hq h => a5 q hq ((e1 q (by omega)).mpr h)⟩
